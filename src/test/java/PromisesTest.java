import java.math.BigInteger;

/** Each promise by itself, with answers worked out by hand from the document. */
public final class PromisesTest {
    private static final Class<IndexOutOfBoundsException> NO_INDEX = IndexOutOfBoundsException.class;
    private static final Class<IllegalArgumentException> NO_VALUE = IllegalArgumentException.class;
    private static final int MIN = Integer.MIN_VALUE;
    private static final int MAX = Integer.MAX_VALUE;

    private static final Due due = new Due();

    public static void main(String[] args) {
        newObject();
        sizesBecomeTheNearest();
        put();
        putRefuses();
        fill();
        fillOfTurnedAndCropped();
        transpose();
        mirror();
        flip();
        turn();
        crop();
        cropRefuses();
        swap();
        swapRefuses();
        keepAndRestore();
        differ();
        at();
        four();
        sum();
        look();
        due.end();
    }

    private static void newObject() {
        CoefTurns x = new CoefTurns(3, 2);
        size("new 3 by 2", x, 3, 2);
        due.is("new: kept W", x.look(4), 3);
        due.is("new: kept H", x.look(5), 2);
        due.is("new: not 0", x.look(2), 0);
        due.is("new: differ", x.differ(), 0);
        for (int place = 0; place < 64; place++) {
            due.is("new: at", x.at(2, 1, place), 0);
        }
        x.fill(1);
        x.transpose();
        x.restore();
        size("new, then restored", x, 3, 2);
        due.is("new, then restored: not 0", x.look(2), 0);
        due.is("NONE", CoefTurns.NONE, -1);
    }

    private static void sizesBecomeTheNearest() {
        int[][] sizes = {{1, 1}, {8, 8}, {0, 9}, {-1, 8}, {8, 0}, {MIN, MAX}, {MAX, MIN}, {5, 100}};
        int[][] nearest = {{1, 1}, {8, 8}, {1, 8}, {1, 8}, {8, 1}, {1, 8}, {8, 1}, {5, 8}};
        for (int i = 0; i < sizes.length; i++) {
            CoefTurns x = new CoefTurns(sizes[i][0], sizes[i][1]);
            size("new " + sizes[i][0] + ", " + sizes[i][1], x, nearest[i][0], nearest[i][1]);
            due.is("its kept W", x.look(4), nearest[i][0]);
            due.is("its kept H", x.look(5), nearest[i][1]);
        }
    }

    private static void put() {
        CoefTurns x = new CoefTurns(3, 2);
        x.put(0, 0, 0, 32767);
        x.put(2, 1, 63, -32767);
        x.put(1, 1, 20, 4);
        x.put(1, 1, 20, 5);
        due.is("put: first", x.at(0, 0, 0), 32767);
        due.is("put: last", x.at(2, 1, 63), -32767);
        due.is("put: again", x.at(1, 1, 20), 5);
        due.is("put: not 0", x.look(2), 3);
        x.put(1, 1, 20, 0);
        due.is("put 0: not 0", x.look(2), 2);
    }

    private static void putRefuses() {
        CoefTurns x = new CoefTurns(3, 2);
        x.fill(5);
        x.keep();
        int[][] noIndex = {
            {3, 0, 0, 1}, {0, 2, 0, 1}, {-1, 0, 0, 1}, {0, -1, 0, 1}, {0, 0, 64, 1}, {0, 0, -1, 1},
            {MAX, 0, 0, 1}, {0, MIN, 0, 1}, {0, 0, MAX, 1}, {0, 0, MIN, 1}, {MIN, MAX, MAX, MIN},
            {7, 0, 0, 1}, {0, 7, 0, 1}, {3, 0, 0, 32768}, {0, 0, 64, -32768}};
        for (int[] a : noIndex) {
            due.isThrown("put to none", Due.thrownByPut(x, a[0], a[1], a[2], a[3]), NO_INDEX);
        }
        for (int value : new int[] {32768, -32768, MIN, MAX}) {
            due.isThrown("put " + value, Due.thrownByPut(x, 0, 0, 0, value), NO_VALUE);
        }
        due.is("put refused: differ", x.differ(), 0);
        due.is("put refused: crop", x.crop(0, 0, 2, 1), true);
        due.isThrown("put to a cropped block", Due.thrownByPut(x, 2, 0, 0, 1), NO_INDEX);
        due.isThrown("put to a cropped row", Due.thrownByPut(x, 0, 1, 0, 1), NO_INDEX);
    }

    private static void fill() {
        for (int seed : new int[] {0, 1, -1, 12345, MIN, MAX}) {
            CoefTurns x = new CoefTurns(8, 8);
            x.fill(seed);
            filled("fill " + seed, x, seed);
        }
        CoefTurns small = new CoefTurns(1, 8);
        small.put(0, 3, 9, 32767);
        small.fill(77);
        filled("fill of 1 by 8", small, 77);
        due.is("fill: kept stays", small.look(5), 8);
        small.restore();
        due.is("fill: kept is 0", small.look(2), 0);
    }

    private static void fillOfTurnedAndCropped() {
        CoefTurns x = new CoefTurns(7, 4);
        x.turn(1);
        x.fill(3);
        size("turned", x, 4, 7);
        filled("fill of a turned plane", x, 3);
        due.is("crop", x.crop(1, 2, 3, 4), true);
        x.fill(-9);
        size("cropped", x, 3, 4);
        filled("fill of a cropped plane", x, -9);
    }

    private static void transpose() {
        CoefTurns x = numbered(3, 2);
        x.transpose();
        size("transposed", x, 2, 3);
        for (int by = 0; by < 3; by++) {
            for (int bx = 0; bx < 2; bx++) {
                for (int p = 0; p < 64; p++) {
                    due.is("transposed: at", x.at(bx, by, p), number(by, bx, 8 * (p % 8) + p / 8));
                }
            }
        }
        due.is("transposed: at an old block", x.at(2, 0, 0), 0);
        x.transpose();
        same("transposed twice", x, numbered(3, 2));
        due.is("transposed: kept W", x.look(4), 3);
        CoefTurns row = numbered(8, 1);
        row.transpose();
        size("a row transposed", row, 1, 8);
        due.is("a row transposed: at", row.at(0, 7, 1), number(7, 0, 8));
    }

    private static void mirror() {
        for (int w = 1; w <= 8; w++) {
            CoefTurns x = numbered(w, 2);
            x.mirror();
            size("mirrored", x, w, 2);
            for (int bx = 0; bx < w; bx++) {
                for (int p = 0; p < 64; p++) {
                    int old = number(w - 1 - bx, 1, p);
                    due.is("mirrored: at", x.at(bx, 1, p), p % 2 == 1 ? -old : old);
                }
            }
            x.mirror();
            same("mirrored twice", x, numbered(w, 2));
        }
    }

    private static void flip() {
        for (int h = 1; h <= 8; h++) {
            CoefTurns x = numbered(2, h);
            x.flip();
            size("flipped", x, 2, h);
            for (int by = 0; by < h; by++) {
                for (int p = 0; p < 64; p++) {
                    int old = number(1, h - 1 - by, p);
                    due.is("flipped: at", x.at(1, by, p), p / 8 % 2 == 1 ? -old : old);
                }
            }
            x.flip();
            same("flipped twice", x, numbered(2, h));
        }
        CoefTurns greatest = new CoefTurns(1, 1);
        greatest.put(0, 0, 9, -32767);
        greatest.flip();
        due.is("flipped: the greatest", greatest.at(0, 0, 9), 32767);
    }

    private static void turn() {
        int[] quarters = {0, 1, 2, 3, 4, 5, -1, -2, -3, -4, -5, 1001, MAX, MAX - 1, MIN, MIN + 1};
        int[] toTheRight = {0, 1, 2, 3, 0, 1, 3, 2, 1, 0, 3, 1, 3, 2, 0, 1};
        for (int i = 0; i < quarters.length; i++) {
            CoefTurns x = numbered(5, 3);
            CoefTurns slow = numbered(5, 3);
            x.turn(quarters[i]);
            for (int k = 0; k < toTheRight[i]; k++) {
                slow.transpose();
                slow.mirror();
            }
            same("turn " + quarters[i], x, slow);
        }
        CoefTurns x = numbered(3, 2);
        x.turn(1);
        size("turn 1", x, 2, 3);
        due.is("turn 1: at", x.at(1, 0, 8), number(0, 0, 1));
        due.is("turn 1: at an odd u", x.at(1, 0, 1), -number(0, 0, 8));
        due.is("turn 1: right above", x.at(0, 2, 0), number(2, 1, 0));
    }

    private static void crop() {
        for (int x = 0; x < 4; x++) {
            for (int y = 0; y < 3; y++) {
                for (int w = 1; w <= 4 - x; w++) {
                    for (int h = 1; h <= 3 - y; h++) {
                        croppedAt(x, y, w, h);
                    }
                }
            }
        }
        CoefTurns x = numbered(8, 8);
        due.is("crop of all", x.crop(0, 0, 8, 8), true);
        same("cropped to all", x, numbered(8, 8));
        due.is("crop to the last", x.crop(7, 7, 1, 1), true);
        due.is("cropped to the last", x.at(0, 0, 5), number(7, 7, 5));
        due.is("cropped: the rest", x.at(1, 0, 5), 0);
        due.is("cropped: kept W", x.look(4), 8);
    }

    private static void croppedAt(int x, int y, int w, int h) {
        CoefTurns plane = numbered(4, 3);
        due.is("crop", plane.crop(x, y, w, h), true);
        size("cropped", plane, w, h);
        for (int by = 0; by < h; by++) {
            for (int bx = 0; bx < w; bx++) {
                for (int p = 0; p < 64; p++) {
                    due.is("cropped: at", plane.at(bx, by, p), number(x + bx, y + by, p));
                }
            }
        }
    }

    private static void cropRefuses() {
        CoefTurns x = numbered(4, 3);
        int[][] none = {
            {0, 0, 0, 1}, {0, 0, 1, 0}, {0, 0, -1, 1}, {0, 0, 1, -1}, {-1, 0, 1, 1}, {0, -1, 1, 1},
            {0, 0, 5, 1}, {0, 0, 1, 4}, {4, 0, 1, 1}, {0, 3, 1, 1}, {1, 0, 4, 1}, {0, 1, 1, 3},
            {MAX, 0, 1, 1}, {0, MAX, 1, 1}, {1, 0, MAX, 1}, {0, 1, 1, MAX}, {MAX, MAX, MAX, MAX},
            {MIN, 0, MAX, 1}, {0, MIN, 1, MAX}, {MIN, MIN, MIN, MIN}, {0, 0, MIN, 1}, {0, 0, 1, MIN},
            {-1, 0, 3, 1}, {0, -1, 1, 3}, {4, 3, 0, 0}};
        for (int[] a : none) {
            String call = "crop " + a[0] + ", " + a[1] + ", " + a[2] + ", " + a[3];
            due.is(call, x.crop(a[0], a[1], a[2], a[3]), false);
            same(call, x, numbered(4, 3));
        }
    }

    private static void swap() {
        CoefTurns x = numbered(3, 2);
        due.is("swap", x.swap(0, 1, 2, 0), true);
        for (int p = 0; p < 64; p++) {
            due.is("swapped: the one", x.at(0, 1, p), number(2, 0, p));
            due.is("swapped: the other", x.at(2, 0, p), number(0, 1, p));
            due.is("swapped: a third", x.at(1, 1, p), number(1, 1, p));
        }
        due.is("swap back", x.swap(2, 0, 0, 1), true);
        due.is("swap with itself", x.swap(1, 1, 1, 1), true);
        same("swapped back", x, numbered(3, 2));
    }

    private static void swapRefuses() {
        CoefTurns x = numbered(3, 2);
        int[][] none = {
            {3, 0, 0, 0}, {0, 2, 0, 0}, {0, 0, 3, 0}, {0, 0, 0, 2}, {-1, 0, 0, 0}, {0, -1, 0, 0},
            {0, 0, -1, 0}, {0, 0, 0, -1}, {MAX, 0, 1, 1}, {1, 1, 0, MIN}, {3, 2, 3, 2}, {7, 7, 0, 0}};
        for (int[] a : none) {
            due.is("swap with none", x.swap(a[0], a[1], a[2], a[3]), false);
        }
        same("swap refused", x, numbered(3, 2));
    }

    private static void keepAndRestore() {
        CoefTurns x = numbered(3, 2);
        x.keep();
        x.turn(1);
        due.is("crop", x.crop(0, 1, 1, 2), true);
        x.put(0, 0, 0, -5);
        due.is("kept W", x.look(4), 3);
        due.is("kept H", x.look(5), 2);
        x.restore();
        same("restored", x, numbered(3, 2));
        x.put(1, 1, 1, 9);
        x.restore();
        same("restored again", x, numbered(3, 2));
        due.is("crop", x.crop(1, 0, 2, 1), true);
        x.keep();
        due.is("kept W of a cropped plane", x.look(4), 2);
        due.is("kept H of a cropped plane", x.look(5), 1);
        x.fill(4);
        x.transpose();
        x.restore();
        size("restored, cropped", x, 2, 1);
        due.is("restored, cropped: at", x.at(0, 0, 7), number(1, 0, 7));
        due.is("restored, cropped: at", x.at(1, 0, 7), number(2, 0, 7));
        due.is("restored, cropped: no block", x.at(2, 0, 7), 0);
    }

    private static void differ() {
        CoefTurns x = numbered(3, 2);
        due.is("differ from the new", x.differ(), x.look(2));
        x.keep();
        due.is("differ from the same", x.differ(), 0);
        x.put(2, 1, 63, -1);
        x.put(0, 0, 0, -1);
        due.is("differ by two", x.differ(), 2);
        x.put(2, 1, 63, number(2, 1, 63));
        due.is("differ by one", x.differ(), 1);
        x.transpose();
        due.is("differ when transposed", x.differ(), -1);
        x.transpose();
        due.is("differ when transposed back", x.differ(), 1);
        due.is("crop", x.crop(0, 0, 3, 1), true);
        due.is("differ in H alone", x.differ(), -1);
        x.restore();
        due.is("crop", x.crop(0, 0, 2, 2), true);
        due.is("differ in W alone", x.differ(), -1);
        CoefTurns sunk = new CoefTurns(2, 1);
        sunk.put(1, 0, 0, 7);
        due.is("crop", sunk.crop(0, 0, 1, 1), true);
        sunk.keep();
        due.is("differ: what was cropped away does not count", sunk.differ(), 0);
    }

    private static void at() {
        CoefTurns x = numbered(3, 2);
        due.is("at", x.at(1, 0, 0), number(1, 0, 0));
        due.is("at the last", x.at(2, 1, 63), number(2, 1, 63));
        int[][] none = {
            {3, 0, 0}, {0, 2, 0}, {-1, 0, 0}, {0, -1, 0}, {0, 0, 64}, {0, 0, -1}, {1, 1, -1}, {1, 0, 64},
            {MAX, 0, 0}, {0, MAX, 0}, {0, 0, MAX}, {MIN, 0, 0}, {0, MIN, 0}, {0, 0, MIN}, {MIN, MIN, MIN}};
        for (int[] a : none) {
            due.is("at none", x.at(a[0], a[1], a[2]), 0);
        }
    }

    private static void four() {
        CoefTurns x = numbered(2, 2);
        x.put(1, 0, 8 * 5 + 4, 1);
        x.put(1, 0, 8 * 5 + 5, -2);
        x.put(1, 0, 8 * 5 + 6, 32767);
        x.put(1, 0, 8 * 5 + 7, -32767);
        due.is("four", x.four(1, 0, 5, 1), 0x0001_FFFE_7FFF_8001L);
        x.put(0, 1, 0, -1);
        x.put(0, 1, 1, 0);
        x.put(0, 1, 2, -32767);
        x.put(0, 1, 3, 5);
        due.is("four, half 0", x.four(0, 1, 0, 0), 0xFFFF_0000_8001_0005L);
        int[][] none = {
            {2, 0, 0, 0}, {0, 2, 0, 0}, {-1, 0, 0, 0}, {0, -1, 0, 0}, {0, 0, 8, 0}, {0, 0, -1, 0},
            {0, 0, 0, 2}, {0, 0, 0, -1}, {1, 1, 1, -1}, {1, 1, 0, 2}, {MAX, 0, 0, 0}, {0, MIN, 0, 0},
            {0, 0, MAX, 0}, {0, 0, MIN, 0}, {0, 0, 0, MAX}, {0, 0, 0, MIN}};
        for (int[] a : none) {
            due.is("four of none", x.four(a[0], a[1], a[2], a[3]), 0);
        }
    }

    private static void sum() {
        CoefTurns x = new CoefTurns(3, 2);
        x.put(0, 0, 7, 10);
        x.put(2, 0, 7, 100);
        x.put(1, 1, 7, -1);
        x.put(1, 1, 8, 1000);
        due.is("sum", x.sum(7), 10 + 3 * 100 - 10);
        due.is("sum of zeros", x.sum(0), 0);
        CoefTurns full = new CoefTurns(8, 8);
        for (int b = 0; b < 64; b++) {
            full.put(b % 8, b / 8, 63, -32767);
        }
        due.is("the least sum", full.sum(63), -32767L * 2080);
        due.is("crop", full.crop(0, 0, 2, 1), true);
        due.is("sum over a cropped plane", full.sum(63), -32767L * 3);
        for (int place : new int[] {64, -1, MIN, MAX}) {
            due.isThrown("sum " + place, Due.thrownBySum(x, place), NO_INDEX);
        }
    }

    private static void look() {
        CoefTurns x = new CoefTurns(5, 4);
        x.put(0, 0, 0, 3);
        x.put(4, 3, 63, -32767);
        x.put(1, 2, 3, -32766);
        x.put(0, 3, 9, 32767);
        due.is("crop", x.crop(0, 0, 5, 4), true);
        int[] want = {5, 4, 4, 32767, 5, 4};
        for (int which = 0; which < want.length; which++) {
            due.is("look " + which, x.look(which), want[which]);
        }
        x.transpose();
        due.is("crop", x.crop(0, 0, 3, 2), true);
        int[] wantCropped = {3, 2, 2, 32766, 5, 4};
        for (int which = 0; which < want.length; which++) {
            due.is("look " + which + ", cropped", x.look(which), wantCropped[which]);
        }
        for (int which : new int[] {6, -1, MAX, MIN}) {
            due.is("look " + which, x.look(which), -1);
        }
    }

    private static void size(String what, CoefTurns x, int w, int h) {
        due.is(what + ": W", x.look(0), w);
        due.is(what + ": H", x.look(1), h);
    }

    private static void same(String what, CoefTurns x, CoefTurns y) {
        size(what, x, y.look(0), y.look(1));
        for (int by = 0; by < 8; by++) {
            for (int bx = 0; bx < 8; bx++) {
                for (int p = 0; p < 64; p++) {
                    due.is(what + ": at", x.at(bx, by, p), y.at(bx, by, p));
                }
            }
        }
    }

    /** A plane in which every coefficient is another one, and none is 0. */
    private static CoefTurns numbered(int w, int h) {
        CoefTurns x = new CoefTurns(w, h);
        for (int by = 0; by < h; by++) {
            for (int bx = 0; bx < w; bx++) {
                for (int p = 0; p < 64; p++) {
                    x.put(bx, by, p, number(bx, by, p));
                }
            }
        }
        return x;
    }

    private static int number(int bx, int by, int place) {
        return 1 + place + 64 * bx + 512 * by;
    }

    private static void filled(String what, CoefTurns x, int seed) {
        for (int by = 0; by < x.look(1); by++) {
            for (int bx = 0; bx < x.look(0); bx++) {
                for (int p = 0; p < 64; p++) {
                    due.is(what + ": at", x.at(bx, by, p), fillOf(seed, bx, by, p));
                }
            }
        }
    }

    /** The document's formula in numbers that never wrap around. */
    private static int fillOf(int seed, int bx, int by, int place) {
        BigInteger k = BigInteger.valueOf(64L * (8 * by + bx) + place);
        BigInteger mixed = BigInteger.valueOf(seed).add(k.multiply(BigInteger.valueOf(40503)))
                .multiply(BigInteger.valueOf(2654435761L)).mod(BigInteger.ONE.shiftLeft(32));
        return mixed.divide(BigInteger.ONE.shiftLeft(20)).mod(BigInteger.valueOf(2047)).intValue() - 1023;
    }
}
