import java.util.Random;

/** Long mixed runs of calls, each answer held against a plain model of the document's terms. */
public final class ModelTest {
    private static final int RUNS = 400;
    private static final int CALLS = 512;
    private static final int[] FAR = {Integer.MIN_VALUE, Integer.MAX_VALUE, -1, 8, 64, 1 << 30, -(1 << 30)};

    private static final Due due = new Due();

    /** A plane as values[bx][by][v][u], made anew by every change. */
    private static final class Plane {
        final int w;
        final int h;
        final int[][][][] values;

        Plane(int w, int h) {
            this.w = w;
            this.h = h;
            this.values = new int[w][h][8][8];
        }

        boolean has(int bx, int by) {
            return bx >= 0 && bx < w && by >= 0 && by < h;
        }

        Plane copied() {
            return cropped(0, 0, w, h);
        }

        Plane cropped(int x, int y, int newW, int newH) {
            Plane made = new Plane(newW, newH);
            made.eachCell((bx, by, v, u) -> values[x + bx][y + by][v][u]);
            return made;
        }

        Plane transposed() {
            Plane made = new Plane(h, w);
            made.eachCell((bx, by, v, u) -> values[by][bx][u][v]);
            return made;
        }

        Plane mirrored() {
            Plane made = new Plane(w, h);
            made.eachCell((bx, by, v, u) -> values[w - 1 - bx][by][v][u] * (u % 2 == 1 ? -1 : 1));
            return made;
        }

        Plane flipped() {
            Plane made = new Plane(w, h);
            made.eachCell((bx, by, v, u) -> values[bx][h - 1 - by][v][u] * (v % 2 == 1 ? -1 : 1));
            return made;
        }

        Plane turned(int quarters) {
            int left = quarters % 4 < 0 ? -(quarters % 4) : 0;
            int right = quarters % 4 < 0 ? 3 * left : quarters % 4;
            Plane made = this;
            for (int i = 0; i < right; i++) {
                made = made.transposed().mirrored();
            }
            return made;
        }

        void fill(int seed) {
            eachCell((bx, by, v, u) -> {
                long k = 64 * (8 * by + bx) + 8 * v + u;
                long low = (seed + k * 40503L) & 0xFFFFFFFFL;
                long mixed = (low * 2654435761L) & 0xFFFFFFFFL;
                return (int) ((mixed / (1L << 20)) % 2047 - 1023);
            });
        }

        void eachCell(Cell cell) {
            for (int bx = 0; bx < w; bx++) {
                for (int by = 0; by < h; by++) {
                    for (int v = 0; v < 8; v++) {
                        for (int u = 0; u < 8; u++) {
                            values[bx][by][v][u] = cell.of(bx, by, v, u);
                        }
                    }
                }
            }
        }

        long total(Cell cell) {
            long total = 0;
            for (int bx = 0; bx < w; bx++) {
                for (int by = 0; by < h; by++) {
                    for (int v = 0; v < 8; v++) {
                        for (int u = 0; u < 8; u++) {
                            total += cell.of(bx, by, v, u);
                        }
                    }
                }
            }
            return total;
        }

        int greatest() {
            int[] greatest = {0};
            total((bx, by, v, u) -> greatest[0] = Math.max(greatest[0], Math.abs(values[bx][by][v][u])));
            return greatest[0];
        }
    }

    private interface Cell {
        int of(int bx, int by, int v, int u);
    }

    private final Random random;
    private final CoefTurns real;
    private Plane plane;
    private Plane kept;

    private ModelTest(int run) {
        random = new Random(run);
        int w = random.nextInt(12) - 2;
        int h = random.nextInt(12) - 2;
        real = new CoefTurns(w, h);
        plane = new Plane(w < 1 ? 1 : w > 8 ? 8 : w, h < 1 ? 1 : h > 8 ? 8 : h);
        kept = plane.copied();
    }

    public static void main(String[] args) {
        for (int run = 0; run < RUNS; run++) {
            ModelTest test = new ModelTest(run);
            for (int call = 0; call < CALLS; call++) {
                String where = "run " + run + ", call " + call + ": ";
                try {
                    test.callOne(where);
                } catch (RuntimeException e) {
                    due.tellWrong(where + "threw " + e);
                }
            }
        }
        due.end();
    }

    private void callOne(String where) {
        switch (random.nextInt(20)) {
            case 0: case 1: case 2: put(where); break;
            case 3: fill(); break;
            case 4: real.transpose(); plane = plane.transposed(); break;
            case 5: real.mirror(); plane = plane.mirrored(); break;
            case 6: real.flip(); plane = plane.flipped(); break;
            case 7: turn(); break;
            case 8: crop(where); break;
            case 9: swap(where); break;
            case 10: keepOrRestore(); break;
            case 11: case 12: differ(where); break;
            case 13: case 14: at(where); break;
            case 15: case 16: four(where); break;
            case 17: sum(where); break;
            default: look(where); break;
        }
    }

    private void put(String where) {
        int bx = near(plane.w);
        int by = near(plane.h);
        int place = near(64);
        int value = random.nextInt(8) == 0 ? (random.nextBoolean() ? 32767 : -32767) + random.nextInt(3) - 1
                : random.nextInt(7) - 3;
        RuntimeException thrown = Due.thrownByPut(real, bx, by, place, value);
        if (!plane.has(bx, by) || place < 0 || place > 63) {
            due.isThrown(where + "put", thrown, IndexOutOfBoundsException.class);
        } else if (value < -32767 || value > 32767) {
            due.isThrown(where + "put", thrown, IllegalArgumentException.class);
        } else {
            due.is(where + "put throws", thrown != null, false);
            plane.values[bx][by][place / 8][place % 8] = value;
        }
    }

    private void fill() {
        int seed = random.nextInt();
        real.fill(seed);
        plane.fill(seed);
    }

    private void turn() {
        int quarters = random.nextBoolean() ? random.nextInt() : random.nextInt(11) - 5;
        real.turn(quarters);
        plane = plane.turned(quarters);
    }

    private void crop(String where) {
        // Mostly as wide and high as can be, or each plane would soon be a single block.
        int x = random.nextInt(3) == 0 ? near(plane.w) : 0;
        int y = random.nextInt(3) == 0 ? near(plane.h) : 0;
        int w = random.nextInt(3) == 0 ? near(plane.w) : plane.w - Math.max(0, Math.min(8, x));
        int h = random.nextInt(3) == 0 ? near(plane.h) : plane.h - Math.max(0, Math.min(8, y));
        boolean can = w >= 1 && h >= 1 && x >= 0 && y >= 0
                && (long) x + w <= plane.w && (long) y + h <= plane.h;
        due.is(where + "crop", real.crop(x, y, w, h), can);
        if (can) {
            plane = plane.cropped(x, y, w, h);
        }
    }

    private void swap(String where) {
        int ax = near(plane.w);
        int ay = near(plane.h);
        int bx = near(plane.w);
        int by = near(plane.h);
        boolean can = plane.has(ax, ay) && plane.has(bx, by);
        due.is(where + "swap", real.swap(ax, ay, bx, by), can);
        if (can) {
            int[][] old = plane.values[ax][ay];
            plane.values[ax][ay] = plane.values[bx][by];
            plane.values[bx][by] = old;
        }
    }

    private void keepOrRestore() {
        // Mostly restored, so that planes get large again.
        if (random.nextInt(4) == 0) {
            real.keep();
            kept = plane.copied();
        } else {
            real.restore();
            plane = kept.copied();
        }
    }

    private void differ(String where) {
        long want = plane.w != kept.w || plane.h != kept.h ? -1 : plane.total((bx, by, v, u) ->
                plane.values[bx][by][v][u] != kept.values[bx][by][v][u] ? 1 : 0);
        due.is(where + "differ", real.differ(), want);
    }

    private void at(String where) {
        int bx = near(plane.w);
        int by = near(plane.h);
        int place = near(64);
        boolean is = plane.has(bx, by) && place >= 0 && place < 64;
        due.is(where + "at", real.at(bx, by, place), is ? plane.values[bx][by][place / 8][place % 8] : 0);
    }

    private void four(String where) {
        int bx = near(plane.w);
        int by = near(plane.h);
        int v = near(8);
        int half = near(2);
        long want = 0;
        if (plane.has(bx, by) && v >= 0 && v < 8 && half >= 0 && half < 2) {
            for (int i = 0; i < 4; i++) {
                long bits = (plane.values[bx][by][v][4 * half + i] + 65536) % 65536;
                want += bits << (48 - 16 * i);
            }
        }
        due.is(where + "four", real.four(bx, by, v, half), want);
    }

    private void sum(String where) {
        int place = near(64);
        if (place < 0 || place > 63) {
            due.isThrown(where + "sum", Due.thrownBySum(real, place), IndexOutOfBoundsException.class);
        } else {
            long want = plane.total((bx, by, v, u) ->
                    8 * v + u == place ? plane.values[bx][by][v][u] * (1 + bx + 8 * by) : 0);
            due.is(where + "sum", real.sum(place), want);
        }
    }

    private void look(String where) {
        long notZero = plane.total((bx, by, v, u) -> plane.values[bx][by][v][u] != 0 ? 1 : 0);
        long[] want = {plane.w, plane.h, notZero, plane.greatest(), kept.w, kept.h};
        int which = near(6);
        due.is(where + "look", real.look(which), which >= 0 && which < 6 ? want[which] : -1);
    }

    /** Mostly below the bound, now and then just outside or far off. */
    private int near(int bound) {
        int kind = random.nextInt(24);
        if (kind == 0) {
            return FAR[random.nextInt(FAR.length)];
        }
        return kind == 1 ? random.nextInt(bound + 2) - 1 : random.nextInt(bound);
    }
}
