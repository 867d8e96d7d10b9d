import java.util.function.Consumer;

/**
 * The document's sentences on calls that throw, or answer false, 0 or NONE.
 * All are asked of a plane of 3 by 2 blocks cropped out of 8 by 8, so that a
 * class that looks beside the plane may find what is left of the larger one.
 */
public final class RefusalsTest {
    private static final Class<IndexOutOfBoundsException> NO_INDEX = IndexOutOfBoundsException.class;
    private static final Class<IllegalArgumentException> NO_VALUE = IllegalArgumentException.class;
    private static final int MIN = Integer.MIN_VALUE;
    private static final int MAX = Integer.MAX_VALUE;
    private static final int KEPT_SEED = 77;

    // Just outside on each side and corner, blocks of the plane's former size,
    // and numbers whose index may wrap around to a block of the plane.
    private static final int[][] NO_BLOCK = {
        {3, 0}, {3, 1}, {0, 2}, {2, 2}, {3, 2}, {-1, 0}, {-1, 1}, {0, -1}, {2, -1}, {-1, -1},
        {7, 0}, {0, 7}, {7, 7}, {8, 0}, {0, 8}, {-8, 1}, {8, -1},
        {1 << 26, 0}, {0, 1 << 23}, {1 << 26, 1 << 23}, {MAX, 0}, {0, MAX}, {MIN, 0}, {0, MIN}, {MAX, MAX},
        {MIN, MIN}, {MIN, MAX}};
    private static final int[] NO_PLACE = {-1, 64, 65, -64, 128, 1 << 30, MIN, MAX};
    private static final int[] NO_COEFFICIENT = {32768, -32768, 32769, 65536, -65535, 65537, MIN, MAX};
    private static final int[][] NO_CROP = {
        {0, 0, 0, 1}, {0, 0, 1, 0}, {0, 0, 0, 0}, {0, 0, -1, 1}, {0, 0, 1, -1}, {0, 0, MIN, 1}, {0, 0, 1, MIN},
        {3, 2, 0, 0}, {1, 1, -1, -1}, {3, 0, -1, 1}, {0, 2, 1, -1},
        {-1, 0, 1, 1}, {0, -1, 1, 1}, {-1, 0, 3, 1}, {0, -1, 1, 2}, {-1, 0, 4, 1}, {0, -1, 1, 3},
        {3, 0, 1, 1}, {0, 2, 1, 1}, {0, 0, 4, 1}, {0, 0, 1, 3}, {1, 0, 3, 1}, {0, 1, 1, 2}, {2, 1, 2, 1},
        {2, 1, 1, 2}, {0, 0, 8, 8}, {7, 7, 1, 1},
        {MAX, 0, 1, 1}, {0, MAX, 1, 1}, {1, 0, MAX, 1}, {0, 1, 1, MAX}, {0, 0, MAX, MAX}, {MAX, MAX, MAX, MAX},
        {MIN, 0, MAX, 1}, {0, MIN, 1, MAX}, {MIN, 0, 1, 1}, {0, MIN, 1, 1}, {MIN, MIN, MIN, MIN}};

    private static final Due due = new Due();

    public static void main(String[] args) {
        due.of("promise 2: IndexOutOfBoundsException if there is no such block", RefusalsTest::putToNoBlock);
        due.of("promise 2: IndexOutOfBoundsException if there is no such place", RefusalsTest::putToNoPlace);
        due.of("promise 2: IllegalArgumentException if value is not as said", RefusalsTest::putOfNoCoefficient);
        due.of("terms: Of several exceptions the first one listed is thrown", RefusalsTest::firstListed);
        due.of("terms: What throws changes nothing: put", RefusalsTest::putChangesNothing);
        due.of("terms: What throws changes nothing: sum", RefusalsTest::sumChangesNothing);
        due.of("promise 8: false if w or h is below 1, or one of these blocks is none", RefusalsTest::cropOfNone);
        due.of("terms: What answers false changes nothing: crop", RefusalsTest::cropChangesNothing);
        due.of("promise 9: false if there is no such one", RefusalsTest::swapOfNone);
        due.of("terms: What answers false changes nothing: swap", RefusalsTest::swapChangesNothing);
        due.of("promise 13: 0 if there is none such", RefusalsTest::atNone);
        due.of("promise 14: 0 if there is no such block, v, or half", RefusalsTest::fourOfNone);
        due.of("promise 15: IndexOutOfBoundsException if there is no such place", RefusalsTest::sumOfNone);
        due.of("promise 16: NONE for any other which", RefusalsTest::lookAtNone);
        due.of("terms: a refused block follows W and H", RefusalsTest::refusalsFollowTheSize);
        due.of("not promised: a call that only answers changes nothing", RefusalsTest::answersChangeNothing);
        due.of("not promised: a call changes no other object", RefusalsTest::otherObjectsStay);
        due.end();
    }

    private static CoefTurns cropped() {
        CoefTurns x = new CoefTurns(8, 8);
        x.fill(KEPT_SEED);
        x.keep();
        x.crop(4, 3, 3, 2);
        x.fill(Planes.SEED);
        return x;
    }

    private static void putToNoBlock() {
        CoefTurns x = cropped();
        for (int[] b : NO_BLOCK) {
            due.isThrown("put to " + b[0] + ", " + b[1], Due.thrownByPut(x, b[0], b[1], 0, 1), NO_INDEX);
        }
    }

    private static void putToNoPlace() {
        CoefTurns x = cropped();
        for (int place : NO_PLACE) {
            due.isThrown("put to place " + place, Due.thrownByPut(x, 1, 1, place, 1), NO_INDEX);
            due.isThrown("put to the first, " + place, Due.thrownByPut(x, 0, 0, place, 1), NO_INDEX);
            due.isThrown("put to the last, " + place, Due.thrownByPut(x, 2, 1, place, 1), NO_INDEX);
        }
    }

    private static void putOfNoCoefficient() {
        CoefTurns x = cropped();
        for (int value : NO_COEFFICIENT) {
            due.isThrown("put of " + value, Due.thrownByPut(x, 1, 1, 9, value), NO_VALUE);
        }
    }

    private static void firstListed() {
        CoefTurns x = cropped();
        for (int value : NO_COEFFICIENT) {
            due.isThrown("no block, no value", Due.thrownByPut(x, 3, 0, 0, value), NO_INDEX);
            due.isThrown("no row, no value", Due.thrownByPut(x, 0, 2, 0, value), NO_INDEX);
            due.isThrown("no place, no value", Due.thrownByPut(x, 0, 0, 64, value), NO_INDEX);
            due.isThrown("no place below, no value", Due.thrownByPut(x, 0, 0, -1, value), NO_INDEX);
            due.isThrown("nothing as said", Due.thrownByPut(x, -1, MAX, MIN, value), NO_INDEX);
        }
    }

    private static void putChangesNothing() {
        for (int[] b : NO_BLOCK) {
            changesNothing("put to " + b[0] + ", " + b[1], x -> Due.thrownByPut(x, b[0], b[1], 0, 1));
        }
        for (int place : NO_PLACE) {
            changesNothing("put to place " + place, x -> Due.thrownByPut(x, 1, 1, place, 1));
        }
        for (int value : NO_COEFFICIENT) {
            changesNothing("put of " + value, x -> Due.thrownByPut(x, 1, 1, 9, value));
        }
    }

    private static void sumChangesNothing() {
        for (int place : NO_PLACE) {
            changesNothing("sum of " + place, x -> Due.thrownBySum(x, place));
        }
    }

    private static void cropOfNone() {
        CoefTurns x = cropped();
        for (int[] a : NO_CROP) {
            due.is(cropOf(a), x.crop(a[0], a[1], a[2], a[3]), false);
        }
    }

    private static void cropChangesNothing() {
        for (int[] a : NO_CROP) {
            changesNothing(cropOf(a), x -> x.crop(a[0], a[1], a[2], a[3]));
        }
    }

    private static String cropOf(int[] a) {
        return "crop at " + a[0] + ", " + a[1] + " to " + a[2] + " by " + a[3];
    }

    private static void swapOfNone() {
        CoefTurns x = cropped();
        for (int[] b : NO_BLOCK) {
            String block = b[0] + ", " + b[1];
            due.is("swap of " + block, x.swap(b[0], b[1], 1, 1), false);
            due.is("swap with " + block, x.swap(1, 1, b[0], b[1]), false);
            due.is("swap of the first with " + block, x.swap(0, 0, b[0], b[1]), false);
            due.is("swap with itself of " + block, x.swap(b[0], b[1], b[0], b[1]), false);
        }
    }

    private static void swapChangesNothing() {
        for (int[] b : NO_BLOCK) {
            changesNothing("swap of " + b[0] + ", " + b[1], x -> x.swap(b[0], b[1], 1, 1));
            changesNothing("swap with " + b[0] + ", " + b[1], x -> x.swap(1, 1, b[0], b[1]));
        }
    }

    private static void atNone() {
        for (int[] b : NO_BLOCK) {
            CoefTurns x = cropped();
            for (int place = 0; place < 64; place++) {
                due.is("at " + b[0] + ", " + b[1] + ", " + place, x.at(b[0], b[1], place), 0);
            }
        }
        for (int place : NO_PLACE) {
            CoefTurns x = cropped();
            for (int b = 0; b < 6; b++) {
                due.is("at a block, " + place, x.at(b % 3, b / 3, place), 0);
            }
        }
    }

    private static void fourOfNone() {
        for (int[] b : NO_BLOCK) {
            CoefTurns x = cropped();
            for (int i = 0; i < 16; i++) {
                due.is("four of " + b[0] + ", " + b[1], x.four(b[0], b[1], i / 2, i % 2), 0);
            }
        }
        CoefTurns x = cropped();
        for (int b = 0; b < 6; b++) {
            for (int none : new int[] {-1, 8, 9, 1 << 29, MIN, MAX}) {
                due.is("four of v " + none, x.four(b % 3, b / 3, none, 0), 0);
                due.is("four of v " + none + ", half 1", x.four(b % 3, b / 3, none, 1), 0);
            }
            for (int none : new int[] {-1, 2, 3, 1 << 30, MIN, MAX}) {
                due.is("four of half " + none, x.four(b % 3, b / 3, 0, none), 0);
                due.is("four of v 4, half " + none, x.four(b % 3, b / 3, 4, none), 0);
                due.is("four of v 7, half " + none, x.four(b % 3, b / 3, 7, none), 0);
            }
        }
    }

    private static void sumOfNone() {
        CoefTurns x = cropped();
        for (int place : NO_PLACE) {
            due.isThrown("sum of " + place, Due.thrownBySum(x, place), NO_INDEX);
        }
    }

    private static void lookAtNone() {
        CoefTurns x = cropped();
        for (int which : new int[] {-1, -2, 6, 7, 8, 256, MIN, MIN + 1, MAX}) {
            due.is("look " + which, x.look(which), -1);
        }
    }

    /** After a turn and after a restore, the blocks are those of the new W and H. */
    private static void refusalsFollowTheSize() {
        CoefTurns x = cropped();
        x.turn(1);
        due.isThrown("put to the old W", Due.thrownByPut(x, 2, 0, 0, 1), NO_INDEX);
        due.is("put to the new H", Due.thrownByPut(x, 1, 2, 0, 1) == null, true);
        due.is("at the old W", x.at(2, 1, 5), 0);
        due.is("four at the old W", x.four(2, 1, 0, 0), 0);
        due.is("swap with the old W", x.swap(0, 0, 2, 0), false);
        due.is("swap with the new H", x.swap(0, 0, 0, 2), true);
        due.is("crop to the old W and H", x.crop(0, 0, 3, 2), false);
        due.is("crop to the new W and H", x.crop(0, 0, 2, 3), true);
        x.restore();
        due.is("restored: put to the last", Due.thrownByPut(x, 7, 7, 63, 1) == null, true);
        due.is("restored: swap with the last", x.swap(0, 0, 7, 7), true);
        due.is("restored: crop to all", x.crop(0, 0, 8, 8), true);
        due.isThrown("restored: put beside it", Due.thrownByPut(x, 8, 7, 63, 1), NO_INDEX);
    }

    private static void answersChangeNothing() {
        changesNothing("differ", CoefTurns::differ);
        for (int place : new int[] {0, 9, 63, -1, 64}) {
            changesNothing("at 2, 1, " + place, x -> x.at(2, 1, place));
            changesNothing("at 3, 1, " + place, x -> x.at(3, 1, place));
        }
        for (int half = -1; half <= 2; half++) {
            int asked = half;
            changesNothing("four of half " + asked, x -> x.four(2, 1, 7, asked));
        }
        for (int place = 0; place < 64; place++) {
            int asked = place;
            changesNothing("sum of " + asked, x -> x.sum(asked));
        }
        for (int which = -1; which <= 6; which++) {
            int asked = which;
            changesNothing("look " + asked, x -> x.look(asked));
        }
    }

    private static void otherObjectsStay() {
        changesNothing("calls on another object", x -> {
            CoefTurns other = cropped();
            other.mirror();
            other.keep();
            other.turn(1);
            other.put(0, 0, 0, 1);
            other.swap(0, 0, 1, 2);
            other.crop(0, 0, 1, 1);
        });
    }

    /** Neither the plane nor the kept one is another one after the call. */
    private static void changesNothing(String what, Consumer<CoefTurns> call) {
        Planes.are(due, what, () -> after(call), 3, 2, Planes::filledAt);
        CoefTurns x = after(call);
        due.is(what + ": kept W", x.look(4), 8);
        due.is(what + ": kept H", x.look(5), 8);
        x.restore();
        x.fill(KEPT_SEED);
        due.is(what + ": differ of the kept plane from what it was", x.differ(), 0);
    }

    private static CoefTurns after(Consumer<CoefTurns> call) {
        CoefTurns x = cropped();
        call.accept(x);
        return x;
    }
}
