import java.util.function.Consumer;

/** The document's sentences that name a least, a greatest, an empty or a wrapped-around case. */
public final class BoundariesTest {
    private static final int MIN = Integer.MIN_VALUE;
    private static final int MAX = Integer.MAX_VALUE;

    private static final Due due = new Due();

    /** A test of one size of a plane. */
    private interface OfSize {
        void test(int w, int h);
    }

    public static void main(String[] args) {
        due.of("terms: NONE = -1", () -> due.is("NONE", CoefTurns.NONE, -1));
        due.of("what it is: at most 512 calls", BoundariesTest::lastCall);
        due.of("promise 1: others than 1 .. 8 count as the nearest", BoundariesTest::nearestSizes);
        due.of("promise 1: w by h blocks", () -> eachSize(BoundariesTest::newOfSize));
        due.of("promise 1: all coefficients 0", BoundariesTest::newIsZero);
        due.of("promise 1: the kept plane is like this", BoundariesTest::newIsKept);
        due.of("promise 2: each -32767 .. 32767", BoundariesTest::greatestValues);
        due.of("promise 2: a place of a block is 8 * v + u", BoundariesTest::everyPlace);
        due.of("promise 2: the first and the last block", () -> eachSize(BoundariesTest::cornersOfSize));
        due.of("terms: FILL, divided by 2^20 (rounded down), modulo 2047, less 1023", BoundariesTest::fillRounds);
        due.of("terms: FILL, modulo 2^32 (the seed's two's complement)", BoundariesTest::fillWraps);
        due.of("terms: FILL, k = 64 * (8 * by + bx) + 8 * v + u", () -> eachSize(BoundariesTest::fillOfSize));
        due.of("promise 3: FILLS a turned plane", () -> eachSize(BoundariesTest::fillOfTurned));
        due.of("promise 3: FILLS the plane alone", BoundariesTest::fillFillsThePlane);
        due.of("terms: TRANSPOSE, W and H change places", () -> eachSize(BoundariesTest::transposeOfSize));
        due.of("terms: MIRROR, the other sign if u is odd", () -> eachSize(BoundariesTest::mirrorOfSize));
        due.of("terms: FLIP, the other sign if v is odd", () -> eachSize(BoundariesTest::flipOfSize));
        due.of("terms: the other sign of the least, the greatest and 0", BoundariesTest::signsOfTheGreatest);
        due.of("terms: without loss", () -> eachSize(BoundariesTest::lossless));
        due.of("terms: QUARTER TURN, to the right", () -> eachSize(BoundariesTest::turnOfSize));
        due.of("promise 7: So many QUARTER TURNS", BoundariesTest::turnsToTheRight);
        due.of("promise 7: below 0 as many to the left", BoundariesTest::turnsToTheLeft);
        due.of("promise 8: CROPS: true", BoundariesTest::everyCrop);
        due.of("promise 8: to all, and to the last block", () -> eachSize(BoundariesTest::cropOfSize));
        due.of("promise 8: a crop of a crop", BoundariesTest::cropOfCrop);
        due.of("promise 9: Two blocks change places", BoundariesTest::everySwap);
        due.of("promise 10: kept as it is", BoundariesTest::keptStays);
        due.of("promise 10: kept again", BoundariesTest::keptAgain);
        due.of("promise 11: The plane is the kept one", BoundariesTest::restoredTwice);
        due.of("promise 12: NONE if that is not of this W and H", BoundariesTest::differOfOtherSize);
        due.of("promise 12: not NONE once it is of this W and H again", BoundariesTest::differOfSizeAgain);
        due.of("promise 12: how many coefficients, none to all", BoundariesTest::differCounts);
        due.of("promise 14: sixteen bits each, the first one highest", BoundariesTest::fourPacks);
        due.of("promise 14: half 0 and 1 of each v", BoundariesTest::fourOfEach);
        due.of("promise 15: each times 1 + bx + 8 * by", () -> eachSize(BoundariesTest::sumOfSize));
        due.of("promise 15: the greatest and the least sum", BoundariesTest::greatestSums);
        due.of("promise 15: over the plane", BoundariesTest::sumOfCropped);
        due.of("promise 16: coefficients that are not 0, none to all", BoundariesTest::lookCounts);
        due.of("promise 16: the greatest |coefficient|", BoundariesTest::lookGreatest);
        due.of("promise 16: over the plane, not the kept one", () -> eachSize(BoundariesTest::lookOfTurned));
        due.of("promise 16: W and H of the plane and of the kept one", BoundariesTest::lookSizes);
        due.end();
    }

    private static void eachSize(OfSize size) {
        for (int w = 1; w <= 8; w++) {
            for (int h = 1; h <= 8; h++) {
                size.test(w, h);
            }
        }
    }

    private static void lastCall() {
        CoefTurns x = Planes.filled(3, 2);
        for (int call = 2; call <= 511; call++) {
            x.turn(1);
        }
        due.is("at, the 512th call after 510 quarter turns", x.at(0, 0, 9), Planes.filledAt(2, 1, 1, 1));
    }

    private static void nearestSizes() {
        int[] given = {1, 8, 0, -1, 9, 10, -8, 16, 257, -255, MIN, MIN + 1, MAX, MAX - 1};
        int[] nearest = {1, 8, 1, 1, 8, 8, 1, 8, 8, 1, 1, 1, 8, 8};
        for (int i = 0; i < given.length; i++) {
            newIs(given[i], 3, nearest[i], 3);
            newIs(5, given[i], 5, nearest[i]);
            for (int k = 0; k < given.length; k++) {
                newIs(given[i], given[k], nearest[i], nearest[k]);
            }
        }
    }

    private static void newOfSize(int w, int h) {
        newIs(w, h, w, h);
    }

    private static void newIs(int givenW, int givenH, int w, int h) {
        CoefTurns x = new CoefTurns(givenW, givenH);
        String what = "new " + givenW + ", " + givenH;
        Planes.hasSize(due, what, x, w, h);
        due.is(what + ": kept W", x.look(4), w);
        due.is(what + ": kept H", x.look(5), h);
        x.fill(MIN);
        due.is(what + ": filled", x.look(2), x.differ());
        due.is(what + ": the last block", x.swap(0, 0, w - 1, h - 1), true);
    }

    private static void newIsZero() {
        Planes.are(due, "new", () -> new CoefTurns(8, 8), 8, 8, (bx, by, v, u) -> 0);
        CoefTurns x = new CoefTurns(8, 8);
        due.is("not 0", x.look(2), 0);
        due.is("greatest", x.look(3), 0);
        due.is("four", x.four(7, 7, 7, 1), 0);
        due.is("sum", x.sum(63), 0);
    }

    private static void newIsKept() {
        due.is("differ", new CoefTurns(8, 8).differ(), 0);
        CoefTurns x = new CoefTurns(3, 2);
        x.fill(1);
        due.is("differ when filled", x.differ(), x.look(2));
        x.transpose();
        x.restore();
        Planes.hasSize(due, "restored", x, 3, 2);
        due.is("restored: not 0", x.look(2), 0);
    }

    private static void greatestValues() {
        for (int value : new int[] {32767, -32767, 32766, -32766, 1, -1, 0}) {
            CoefTurns x = new CoefTurns(1, 1);
            x.put(0, 0, 0, 5);
            x.put(0, 0, 0, value);
            due.is("put " + value, x.at(0, 0, 0), value);
        }
    }

    private static void everyPlace() {
        for (int place = 0; place < 64; place++) {
            CoefTurns x = new CoefTurns(3, 2);
            x.put(2, 1, place, 7);
            due.is("at " + place, x.at(2, 1, place), 7);
            due.is("not 0", x.look(2), 1);
            long packed = 7L << (48 - 16 * (place % 4));
            due.is("four of " + place, x.four(2, 1, place / 8, place % 8 / 4), packed);
        }
    }

    private static void cornersOfSize(int w, int h) {
        CoefTurns x = new CoefTurns(w, h);
        int[][] corners = {{0, 0}, {w - 1, 0}, {0, h - 1}, {w - 1, h - 1}};
        for (int i = 0; i < corners.length; i++) {
            x.put(corners[i][0], corners[i][1], 0, i + 1);
            x.put(corners[i][0], corners[i][1], 63, -i - 1);
            due.is("place 0 of a corner", x.at(corners[i][0], corners[i][1], 0), i + 1);
            due.is("place 63 of a corner", x.at(corners[i][0], corners[i][1], 63), -i - 1);
        }
        due.is("not 0", x.look(2), 2 * Math.min(w, 2) * Math.min(h, 2));
    }

    /** The seeds whose product at k = 0 is q * 2^20, and just below (q + 1) * 2^20. */
    private static void fillRounds() {
        int[][] seeds = {
            {0, -427503441}, {-183500800, -611004241}, {-1596981248, -2024484689}, {-1780482048, 2086981807},
            {-1963982848, 1903481007}, {MIN, 1719980207}, {734003200, 306499759}, {550502400, 122998959},
            {367001600, -60501841}, {183500800, -244002641}};
        int[] q = {0, 1, 2045, 2046, 2047, 2048, 4092, 4093, 4094, 4095};
        int[] want = {-1023, -1022, 1022, 1023, -1023, -1022, 1022, 1023, -1023, -1022};
        for (int i = 0; i < q.length; i++) {
            CoefTurns x = new CoefTurns(1, 1);
            x.fill(seeds[i][0]);
            due.is("the least of " + q[i], x.at(0, 0, 0), want[i]);
            x.fill(seeds[i][1]);
            due.is("the greatest of " + q[i], x.at(0, 0, 0), want[i]);
        }
    }

    private static void fillWraps() {
        int[] seeds = {0, 1, -1, MIN, MAX, MIN + 1};
        int[][] places = {{0, 0, 0}, {0, 0, 1}, {0, 0, 63}, {1, 0, 0}, {7, 0, 0}, {0, 1, 0}, {7, 7, 63}};
        int[][] want = {
            {-1023, -79, -917, 27, 179, -819, -333}, {-539, 405, -435, 510, 664, -335, 152},
            {541, -562, 647, -457, -303, 745, -815}, {-1022, -78, -918, 26, 180, -818, -332},
            {542, -563, 646, -456, -304, 746, -816}, {-540, 404, -434, 511, 663, -336, 151}};
        for (int i = 0; i < seeds.length; i++) {
            CoefTurns x = new CoefTurns(8, 8);
            x.fill(seeds[i]);
            for (int k = 0; k < places.length; k++) {
                int[] p = places[k];
                due.is("fill " + seeds[i] + ", " + k, x.at(p[0], p[1], p[2]), want[i][k]);
            }
            int seed = seeds[i];
            Planes.are(due, "fill " + seed, () -> after(8, 8, made -> made.fill(seed)), 8, 8,
                    (bx, by, v, u) -> Planes.fillOf(seed, bx, by, 8 * v + u));
        }
    }

    private static void fillOfSize(int w, int h) {
        Planes.are(due, "fill of " + w + " by " + h, () -> Planes.filled(w, h), w, h, Planes::filledAt);
    }

    private static void fillOfTurned(int w, int h) {
        Planes.are(due, w + " by " + h + " turned and filled", () -> after(w, h, x -> {
            x.fill(5);
            x.turn(1);
            x.fill(Planes.SEED);
        }), h, w, Planes::filledAt);
    }

    private static void fillFillsThePlane() {
        Planes.are(due, "fill of a cropped plane", () -> after(7, 4, x -> {
            x.fill(5);
            x.crop(2, 1, 3, 2);
            x.fill(Planes.SEED);
        }), 3, 2, Planes::filledAt);
        CoefTurns x = new CoefTurns(3, 2);
        x.put(1, 1, 9, 32767);
        x.fill(3);
        due.is("what was put is filled", x.at(1, 1, 9), Planes.fillOf(3, 1, 1, 9));
        x.restore();
        due.is("the kept plane is not filled", x.look(2), 0);
    }

    private static void transposeOfSize(int w, int h) {
        Planes.are(due, w + " by " + h + " transposed", () -> after(w, h, CoefTurns::transpose), h, w,
                (bx, by, v, u) -> Planes.filledAt(by, bx, u, v));
    }

    private static void mirrorOfSize(int w, int h) {
        Planes.are(due, w + " by " + h + " mirrored", () -> after(w, h, CoefTurns::mirror), w, h,
                (bx, by, v, u) -> Planes.minusIf(u % 2 == 1, Planes.filledAt(w - 1 - bx, by, v, u)));
    }

    private static void flipOfSize(int w, int h) {
        Planes.are(due, w + " by " + h + " flipped", () -> after(w, h, CoefTurns::flip), w, h,
                (bx, by, v, u) -> Planes.minusIf(v % 2 == 1, Planes.filledAt(bx, h - 1 - by, v, u)));
    }

    private static void signsOfTheGreatest() {
        for (int value : new int[] {32767, -32767, 0}) {
            CoefTurns x = new CoefTurns(1, 1);
            x.put(0, 0, 63, value);
            x.mirror();
            due.is("mirror of " + value, x.at(0, 0, 63), -value);
            x.flip();
            due.is("flip of the mirror of " + value, x.at(0, 0, 63), value);
            due.is("four", x.four(0, 0, 7, 1), value & 0xFFFF);
            due.is("not 0", x.look(2), value == 0 ? 0 : 1);
            due.is("greatest", x.look(3), value == 0 ? 0 : 32767);
        }
    }

    private static void lossless(int w, int h) {
        comesBack("transposed twice", w, h, CoefTurns::transpose);
        comesBack("mirrored twice", w, h, CoefTurns::mirror);
        comesBack("flipped twice", w, h, CoefTurns::flip);
        comesBack("turned by two twice", w, h, x -> x.turn(2));
        comesBack("turned by two to the left, twice", w, h, x -> x.turn(-2));
    }

    private static void comesBack(String what, int w, int h, Consumer<CoefTurns> change) {
        CoefTurns x = Planes.filled(w, h);
        x.keep();
        change.accept(x);
        change.accept(x);
        due.is(what + ": differ", x.differ(), 0);
        due.is(what + ": not 0", x.look(2), Planes.filled(w, h).look(2));
    }

    private static void turnOfSize(int w, int h) {
        for (int right = 0; right < 4; right++) {
            turnIs(right, right, w, h);
            turnIs(right - 4, right, w, h);
        }
    }

    private static void turnsToTheRight() {
        int[] quarters = {0, 1, 2, 3, 4, 5, 6, 7, 8, 1001, 1 << 30, MAX, MAX - 1, MAX - 2, MAX - 3};
        int[] right = {0, 1, 2, 3, 0, 1, 2, 3, 0, 1, 0, 3, 2, 1, 0};
        for (int i = 0; i < quarters.length; i++) {
            turnIs(quarters[i], right[i], 5, 3);
        }
    }

    private static void turnsToTheLeft() {
        int[] quarters = {-1, -2, -3, -4, -5, -6, -7, -8, -1001, -(1 << 30), MIN, MIN + 1, MIN + 2, MIN + 3};
        int[] right = {3, 2, 1, 0, 3, 2, 1, 0, 3, 0, 0, 1, 2, 3};
        for (int i = 0; i < quarters.length; i++) {
            turnIs(quarters[i], right[i], 5, 3);
        }
    }

    private static void turnIs(int quarters, int right, int w, int h) {
        boolean across = right % 2 == 1;
        Planes.are(due, w + " by " + h + ", turn " + quarters, () -> after(w, h, x -> x.turn(quarters)),
                across ? h : w, across ? w : h, turned(right, w, h));
    }

    /** A quarter turn: the new (bx, by) is, before the mirror, (h - 1 - bx, by) of the transposed plane. */
    private static Planes.Cells turned(int right, int w, int h) {
        switch (right) {
            case 1:
                return (bx, by, v, u) -> Planes.minusIf(u % 2 == 1, Planes.filledAt(by, h - 1 - bx, u, v));
            case 2:
                return (bx, by, v, u) -> Planes.minusIf((u + v) % 2 == 1,
                        Planes.filledAt(w - 1 - bx, h - 1 - by, v, u));
            case 3:
                return (bx, by, v, u) -> Planes.minusIf(v % 2 == 1, Planes.filledAt(w - 1 - by, bx, u, v));
            default:
                return Planes::filledAt;
        }
    }

    private static void everyCrop() {
        for (int x = 0; x < 5; x++) {
            for (int y = 0; y < 4; y++) {
                for (int w = 1; w <= 5 - x; w++) {
                    for (int h = 1; h <= 4 - y; h++) {
                        cropIs(5, 4, x, y, w, h);
                    }
                }
            }
        }
    }

    private static void cropOfSize(int w, int h) {
        cropIs(w, h, 0, 0, w, h);
        cropIs(w, h, w - 1, h - 1, 1, 1);
        cropIs(w, h, w - 1, 0, 1, h);
        cropIs(w, h, 0, h - 1, w, 1);
    }

    private static void cropIs(int oldW, int oldH, int x, int y, int w, int h) {
        String what = oldW + " by " + oldH + ", crop at " + x + ", " + y + " to " + w + " by " + h;
        CoefTurns plane = Planes.filled(oldW, oldH);
        due.is(what, plane.crop(x, y, w, h), true);
        due.is(what + ": kept W", plane.look(4), oldW);
        due.is(what + ": kept H", plane.look(5), oldH);
        due.is(what + ": at beside it", plane.at(w, 0, 0), 0);
        due.is(what + ": at below it", plane.at(0, h, 0), 0);
        Planes.are(due, what, () -> after(oldW, oldH, made -> made.crop(x, y, w, h)), w, h,
                (bx, by, v, u) -> Planes.filledAt(x + bx, y + by, v, u));
    }

    private static void cropOfCrop() {
        Planes.are(due, "a crop of a crop", () -> after(8, 8, x -> {
            x.crop(1, 2, 6, 5);
            x.crop(2, 1, 3, 4);
        }), 3, 4, (bx, by, v, u) -> Planes.filledAt(3 + bx, 3 + by, v, u));
        Planes.are(due, "a crop that was turned", () -> after(8, 8, x -> {
            x.crop(1, 2, 6, 3);
            x.transpose();
            x.crop(1, 4, 2, 2);
        }), 2, 2, (bx, by, v, u) -> Planes.filledAt(1 + 4 + by, 2 + 1 + bx, u, v));
    }

    /** Of 3 by 2 blocks each one with each, itself too. */
    private static void everySwap() {
        for (int i = 0; i < 36; i++) {
            int a = i / 6;
            int b = i % 6;
            String what = "swap of " + a + " with " + b;
            due.is(what, Planes.filled(3, 2).swap(a % 3, a / 3, b % 3, b / 3), true);
            Planes.are(due, what, () -> after(3, 2, x -> x.swap(a % 3, a / 3, b % 3, b / 3)), 3, 2,
                    (bx, by, v, u) -> {
                        int here = 3 * by + bx;
                        int old = here == a ? b : here == b ? a : here;
                        return Planes.filledAt(old % 3, old / 3, v, u);
                    });
        }
    }

    private static void keptStays() {
        staysKept("put", x -> x.put(1, 1, 1, 32767));
        staysKept("fill", x -> x.fill(9));
        staysKept("transpose", CoefTurns::transpose);
        staysKept("mirror", CoefTurns::mirror);
        staysKept("flip", CoefTurns::flip);
        staysKept("turn", x -> x.turn(3));
        staysKept("crop", x -> x.crop(1, 1, 2, 1));
        staysKept("swap", x -> x.swap(0, 0, 2, 1));
    }

    private static void staysKept(String what, Consumer<CoefTurns> change) {
        CoefTurns changed = after(3, 2, x -> {
            x.keep();
            change.accept(x);
        });
        due.is(what + ": kept W", changed.look(4), 3);
        due.is(what + ": kept H", changed.look(5), 2);
        Planes.are(due, what + ", restored", () -> after(3, 2, x -> {
            x.keep();
            change.accept(x);
            x.restore();
        }), 3, 2, Planes::filledAt);
    }

    private static void keptAgain() {
        Planes.are(due, "a smaller plane kept over a larger one", () -> after(5, 4, x -> {
            x.keep();
            x.crop(1, 2, 3, 2);
            x.keep();
            x.turn(1);
            x.fill(4);
            x.restore();
        }), 3, 2, (bx, by, v, u) -> Planes.filledAt(1 + bx, 2 + by, v, u));
        Planes.are(due, "a turned plane kept", () -> after(5, 4, x -> {
            x.transpose();
            x.keep();
            x.crop(0, 0, 1, 1);
            x.restore();
        }), 4, 5, (bx, by, v, u) -> Planes.filledAt(by, bx, u, v));
    }

    private static void restoredTwice() {
        Planes.are(due, "changed after a restore, and restored", () -> after(3, 2, x -> {
            x.keep();
            x.crop(2, 1, 1, 1);
            x.restore();
            x.put(1, 1, 1, 32767);
            x.mirror();
            x.restore();
        }), 3, 2, Planes::filledAt);
        CoefTurns x = Planes.filled(3, 2);
        x.keep();
        x.crop(0, 0, 1, 1);
        x.restore();
        due.is("restored: kept W", x.look(4), 3);
        due.is("restored: kept H", x.look(5), 2);
        due.is("restored: differ", x.differ(), 0);
        x.put(0, 0, 0, 32767);
        due.is("restored, then a put: differ", x.differ(), 1);
    }

    private static void differOfOtherSize() {
        CoefTurns x = new CoefTurns(3, 2);
        due.is("crop", x.crop(0, 0, 3, 1), true);
        due.is("H alone is another one", x.differ(), -1);
        x.restore();
        due.is("crop", x.crop(0, 0, 2, 2), true);
        due.is("W alone is another one", x.differ(), -1);
        x.restore();
        x.transpose();
        due.is("as many blocks, but 2 by 3", x.differ(), -1);
        x.keep();
        x.transpose();
        due.is("as many blocks, but 3 by 2", x.differ(), -1);
        due.is("crop", x.crop(0, 0, 1, 1), true);
        due.is("both are other ones", x.differ(), -1);
    }

    private static void differOfSizeAgain() {
        CoefTurns x = Planes.filled(3, 2);
        x.keep();
        x.put(2, 1, 0, 32767);
        x.transpose();
        due.is("transposed", x.differ(), -1);
        x.transpose();
        due.is("transposed back", x.differ(), 1);
        due.is("crop to all", x.crop(0, 0, 3, 2), true);
        due.is("cropped to all", x.differ(), 1);
        due.is("crop", x.crop(0, 0, 2, 2), true);
        x.keep();
        due.is("kept when cropped", x.differ(), 0);
        CoefTurns square = new CoefTurns(2, 2);
        square.put(0, 0, 1, 5);
        square.keep();
        square.transpose();
        due.is("a square one transposed", square.differ(), 2);
    }

    private static void differCounts() {
        CoefTurns x = new CoefTurns(8, 8);
        x.fill(MIN);
        x.keep();
        due.is("none", x.differ(), 0);
        x.put(7, 7, 63, 32767);
        due.is("the last", x.differ(), 1);
        x.put(0, 0, 0, 32767);
        due.is("the first too", x.differ(), 2);
        x.restore();
        x.mirror();
        x.keep();
        x.mirror();
        x.swap(0, 0, 7, 0);
        due.is("blocks and signs", x.differ(), mirrorDiffers());
        CoefTurns zeros = new CoefTurns(8, 8);
        zeros.keep();
        zeros.fill(2);
        due.is("all that are not 0", zeros.differ(), zeros.look(2));
        CoefTurns one = new CoefTurns(1, 1);
        for (int place = 0; place < 64; place++) {
            one.put(0, 0, place, -1);
        }
        due.is("all", one.differ(), 64);
        one.keep();
        one.mirror();
        due.is("the sign of half", one.differ(), 32);
        CoefTurns sunk = new CoefTurns(2, 2);
        sunk.put(1, 1, 0, 7);
        sunk.crop(0, 0, 1, 1);
        sunk.keep();
        due.is("what was cropped away", sunk.differ(), 0);
    }

    /** How many of the filled plane's coefficients a mirror changes, where the two upper corners changed places before. */
    private static int mirrorDiffers() {
        int count = 0;
        for (int i = 0; i < 4096; i++) {
            int bx = i / 64 % 8;
            int by = i / 512;
            boolean corner = by == 0 && (bx == 0 || bx == 7);
            int now = Planes.fillOf(MIN, corner ? 7 - bx : bx, by, i % 64);
            int kept = Planes.minusIf(i % 2 == 1, Planes.fillOf(MIN, 7 - bx, by, i % 64));
            count += now != kept ? 1 : 0;
        }
        return count;
    }

    private static void fourPacks() {
        CoefTurns x = new CoefTurns(1, 1);
        int[] values = {1, -2, 32767, -32767, -1, 0, -32767, 5, -1, -1, -1, -1, 0, 0, 0, -1, 32767, 0, 0, 0};
        for (int place = 0; place < values.length; place++) {
            x.put(0, 0, place, values[place]);
        }
        due.is("signs do not spread", x.four(0, 0, 0, 0), 0x0001_FFFE_7FFF_8001L);
        due.is("half 1", x.four(0, 0, 0, 1), 0xFFFF_0000_8001_0005L);
        due.is("all -1", x.four(0, 0, 1, 0), -1);
        due.is("the last one alone", x.four(0, 0, 1, 1), 0xFFFFL);
        due.is("the first one alone", x.four(0, 0, 2, 0), 0x7FFF_0000_0000_0000L);
    }

    private static void fourOfEach() {
        CoefTurns x = Planes.filled(3, 2);
        for (int b = 0; b < 6; b++) {
            for (int i = 0; i < 16; i++) {
                long want = 0;
                for (int u = 0; u < 4; u++) {
                    want = want * 65536 + Math.floorMod(Planes.filledAt(b % 3, b / 3, i / 2, 4 * (i % 2) + u), 65536);
                }
                due.is("four of block " + b + ", " + i, x.four(b % 3, b / 3, i / 2, i % 2), want);
            }
        }
    }

    private static void sumOfSize(int w, int h) {
        CoefTurns x = Planes.filled(w, h);
        for (int place = 0; place < 64; place++) {
            long want = 0;
            for (int by = 0; by < h; by++) {
                for (int bx = 0; bx < w; bx++) {
                    want += (1 + bx + 8 * by) * Planes.fillOf(Planes.SEED, bx, by, place);
                }
            }
            due.is(w + " by " + h + ", sum of " + place, x.sum(place), want);
        }
    }

    private static void greatestSums() {
        CoefTurns x = new CoefTurns(8, 8);
        for (int b = 0; b < 64; b++) {
            x.put(b % 8, b / 8, 0, 32767);
            x.put(b % 8, b / 8, 63, -32767);
        }
        due.is("the greatest", x.sum(0), 68155360L);
        due.is("the least", x.sum(63), -68155360L);
        due.is("of a place beside", x.sum(1), 0);
        due.is("of a place before", x.sum(62), 0);
    }

    private static void sumOfCropped() {
        CoefTurns x = new CoefTurns(8, 8);
        for (int b = 0; b < 64; b++) {
            x.put(b % 8, b / 8, 5, 1 + b);
        }
        due.is("crop", x.crop(6, 6, 2, 2), true);
        due.is("a cropped plane", x.sum(5), 1 * 55 + 2 * 56 + 9 * 63 + 10 * 64);
        x.restore();
        due.is("the kept plane", x.sum(5), 0);
    }

    private static void lookCounts() {
        CoefTurns x = new CoefTurns(1, 1);
        for (int place = 0; place < 64; place++) {
            x.put(0, 0, place, place % 2 == 0 ? 1 : -1);
            due.is("not 0", x.look(2), place + 1);
        }
        CoefTurns full = new CoefTurns(8, 8);
        full.fill(1);
        int want = 0;
        for (int i = 0; i < 4096; i++) {
            want += Planes.fillOf(1, i / 64 % 8, i / 512, i % 64) != 0 ? 1 : 0;
        }
        due.is("8 by 8, not 0", full.look(2), want);
        CoefTurns cropped = new CoefTurns(3, 2);
        cropped.put(0, 0, 0, 1);
        cropped.put(2, 0, 0, 1);
        cropped.put(0, 1, 0, 1);
        due.is("crop", cropped.crop(0, 0, 2, 1), true);
        due.is("cropped, not 0", cropped.look(2), 1);
    }

    private static void lookGreatest() {
        CoefTurns x = new CoefTurns(3, 2);
        due.is("of zeros", x.look(3), 0);
        x.put(2, 1, 63, -1);
        due.is("of -1", x.look(3), 1);
        x.put(0, 0, 0, 2);
        due.is("of -1 and 2", x.look(3), 2);
        x.put(1, 1, 7, -32767);
        due.is("of the least", x.look(3), 32767);
        x.put(1, 1, 7, 32767);
        due.is("of the greatest", x.look(3), 32767);
        due.is("crop", x.crop(0, 0, 3, 1), true);
        due.is("of a cropped plane", x.look(3), 2);
        due.is("crop", x.crop(1, 0, 2, 1), true);
        due.is("of what is left", x.look(3), 0);
    }

    private static void lookOfTurned(int w, int h) {
        CoefTurns x = new CoefTurns(w, h);
        x.transpose();
        x.put(h - 1, w - 1, 63, -9);
        due.is(w + " by " + h + " transposed: not 0", x.look(2), 1);
        due.is(w + " by " + h + " transposed: greatest", x.look(3), 9);
        due.is(w + " by " + h + " transposed: sum", x.sum(63), -9L * (1 + (h - 1) + 8 * (w - 1)));
        x.keep();
        x.put(h - 1, w - 1, 63, 1);
        due.is(w + " by " + h + " transposed, not the kept one: greatest", x.look(3), 1);
    }

    private static void lookSizes() {
        CoefTurns x = new CoefTurns(8, 1);
        sizesAre("new", x, 8, 1, 8, 1);
        x.transpose();
        sizesAre("transposed", x, 1, 8, 8, 1);
        x.keep();
        sizesAre("kept", x, 1, 8, 1, 8);
        x.turn(-1);
        sizesAre("turned", x, 8, 1, 1, 8);
        x.crop(1, 0, 5, 1);
        sizesAre("cropped", x, 5, 1, 1, 8);
        x.mirror();
        x.flip();
        x.turn(2);
        x.fill(1);
        sizesAre("mirrored, flipped, turned by two, filled", x, 5, 1, 1, 8);
        x.restore();
        sizesAre("restored", x, 1, 8, 1, 8);
    }

    private static void sizesAre(String what, CoefTurns x, int w, int h, int keptW, int keptH) {
        Planes.hasSize(due, what, x, w, h);
        due.is(what + ": kept W", x.look(4), keptW);
        due.is(what + ": kept H", x.look(5), keptH);
    }

    private static CoefTurns after(int w, int h, Consumer<CoefTurns> change) {
        CoefTurns x = Planes.filled(w, h);
        change.accept(x);
        return x;
    }
}
