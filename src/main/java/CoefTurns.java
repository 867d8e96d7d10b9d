/**
 * Planes of coefficients of blocks, eight by eight each, that are turned,
 * mirrored and cropped as if they were the picture, without loss.
 */
public final class CoefTurns {
    /** There is none. */
    public static final int NONE = -1;

    private static final int MOST_BLOCKS = 8;
    private static final int SIDE = 8;
    private static final int BLOCK_CELLS = SIDE * SIDE;
    private static final int ALL_CELLS = MOST_BLOCKS * MOST_BLOCKS * BLOCK_CELLS;
    private static final int GREATEST = 32767;

    // Bits of a place, 8 * v + u, that tell an odd u and an odd v.
    private static final int ODD_U = 1;
    private static final int ODD_V = SIDE;

    private static final int SEED_STEP = 40503;
    private static final int SEED_FACTOR = (int) 2654435761L;
    private static final int SEED_SHIFT = 20;
    private static final int FILL_SPAN = 2047;
    private static final int FILL_LESS = 1023;

    // Both rows have room for 8 by 8 blocks whatever W and H are: so every
    // change is made in place, and no call but the constructor makes an array.
    // What lies outside of W by H is never read as a part of the plane.
    private final int[] cells;
    private final int[] keptCells;
    private int width;
    private int height;
    private int keptWidth;
    private int keptHeight;

    public CoefTurns(int w, int h) {
        width = nearestSize(w);
        height = nearestSize(h);
        keptWidth = width;
        keptHeight = height;
        cells = new int[ALL_CELLS];
        keptCells = new int[ALL_CELLS];
    }

    public void put(int bx, int by, int place, int value)
            throws IndexOutOfBoundsException, IllegalArgumentException {
        if (!isBlock(bx, by) || !isPlace(place)) {
            throw new IndexOutOfBoundsException("no such block or place");
        }
        if (value < -GREATEST || value > GREATEST) {
            throw new IllegalArgumentException("a coefficient is -32767 .. 32767");
        }
        cells[blockStart(bx, by) + place] = value;
    }

    public void fill(int seed) {
        for (int by = 0; by < height; by++) {
            for (int bx = 0; bx < width; bx++) {
                fillBlock(blockStart(bx, by), seed);
            }
        }
    }

    public void transpose() {
        exchangeAcrossDiagonal(Math.max(width, height));
        int oldWidth = width;
        width = height;
        height = oldWidth;
        for (int by = 0; by < height; by++) {
            for (int bx = 0; bx < width; bx++) {
                transposeBlock(blockStart(bx, by));
            }
        }
    }

    public void mirror() {
        for (int by = 0; by < height; by++) {
            for (int bx = 0; bx < width / 2; bx++) {
                exchangeBlocks(blockStart(bx, by), blockStart(width - 1 - bx, by));
            }
        }
        negatePlaces(ODD_U);
    }

    public void flip() {
        for (int by = 0; by < height / 2; by++) {
            for (int bx = 0; bx < width; bx++) {
                exchangeBlocks(blockStart(bx, by), blockStart(bx, height - 1 - by));
            }
        }
        negatePlaces(ODD_V);
    }

    // Two quarter turns are a mirror and a flip, and three are a transpose and
    // a flip: so no count of turns takes more than two changes of the plane.
    public void turn(int quarters) {
        switch (Math.floorMod(quarters, 4)) {
            case 1:
                transpose();
                mirror();
                break;
            case 2:
                mirror();
                flip();
                break;
            case 3:
                transpose();
                flip();
                break;
            default:
                break;
        }
    }

    public boolean crop(int x, int y, int w, int h) {
        if (w < 1 || h < 1 || x < 0 || y < 0) {
            return false;
        }
        // Not x + w > width: that sum may wrap around.
        if (w > width - x || h > height - y) {
            return false;
        }
        // From above and from the left, no block is overwritten before it is
        // read, as none moves down or to the right.
        for (int by = 0; by < h; by++) {
            System.arraycopy(cells, blockStart(x, y + by), cells, blockStart(0, by), w * BLOCK_CELLS);
        }
        width = w;
        height = h;
        return true;
    }

    public boolean swap(int ax, int ay, int bx, int by) {
        if (!isBlock(ax, ay) || !isBlock(bx, by)) {
            return false;
        }
        exchangeBlocks(blockStart(ax, ay), blockStart(bx, by));
        return true;
    }

    public void keep() {
        System.arraycopy(cells, 0, keptCells, 0, ALL_CELLS);
        keptWidth = width;
        keptHeight = height;
    }

    public void restore() {
        System.arraycopy(keptCells, 0, cells, 0, ALL_CELLS);
        width = keptWidth;
        height = keptHeight;
    }

    public int differ() {
        if (width != keptWidth || height != keptHeight) {
            return NONE;
        }
        int count = 0;
        for (int by = 0; by < height; by++) {
            int end = blockStart(width, by);
            for (int i = blockStart(0, by); i < end; i++) {
                if (cells[i] != keptCells[i]) {
                    count++;
                }
            }
        }
        return count;
    }

    public int at(int bx, int by, int place) {
        if (!isBlock(bx, by) || !isPlace(place)) {
            return 0;
        }
        return cells[blockStart(bx, by) + place];
    }

    public long four(int bx, int by, int v, int half) {
        if (!isBlock(bx, by) || v < 0 || v >= SIDE || half < 0 || half > 1) {
            return 0;
        }
        int first = blockStart(bx, by) + SIDE * v + 4 * half;
        long packed = 0;
        for (int i = first; i < first + 4; i++) {
            packed = (packed << 16) | (cells[i] & 0xFFFF);
        }
        return packed;
    }

    public long sum(int place) throws IndexOutOfBoundsException {
        if (!isPlace(place)) {
            throw new IndexOutOfBoundsException("no such place");
        }
        long total = 0;
        for (int by = 0; by < height; by++) {
            for (int bx = 0; bx < width; bx++) {
                long weight = 1 + bx + 8 * by;
                total += weight * cells[blockStart(bx, by) + place];
            }
        }
        return total;
    }

    public int look(int which) {
        switch (which) {
            case 0:
                return width;
            case 1:
                return height;
            case 2:
                return countNotZero();
            case 3:
                return greatestSize();
            case 4:
                return keptWidth;
            case 5:
                return keptHeight;
            default:
                return NONE;
        }
    }

    private static int nearestSize(int blocks) {
        return Math.max(1, Math.min(MOST_BLOCKS, blocks));
    }

    private static boolean isPlace(int place) {
        return place >= 0 && place < BLOCK_CELLS;
    }

    private boolean isBlock(int bx, int by) {
        return bx >= 0 && bx < width && by >= 0 && by < height;
    }

    private static int blockStart(int bx, int by) {
        return BLOCK_CELLS * (MOST_BLOCKS * by + bx);
    }

    // A coefficient's index is the document's k, and int arithmetic is modulo
    // 2^32 by itself.
    private void fillBlock(int start, int seed) {
        for (int k = start; k < start + BLOCK_CELLS; k++) {
            int mixed = (seed + k * SEED_STEP) * SEED_FACTOR;
            cells[k] = (mixed >>> SEED_SHIFT) % FILL_SPAN - FILL_LESS;
        }
    }

    // The whole square of blocks is exchanged: where W and H differ, what lies
    // outside of the plane goes to the other side and stays outside.
    private void exchangeAcrossDiagonal(int blocks) {
        for (int by = 1; by < blocks; by++) {
            for (int bx = 0; bx < by; bx++) {
                exchangeBlocks(blockStart(bx, by), blockStart(by, bx));
            }
        }
    }

    private void exchangeBlocks(int a, int b) {
        for (int place = 0; place < BLOCK_CELLS; place++) {
            exchangeCells(a + place, b + place);
        }
    }

    private void transposeBlock(int start) {
        for (int v = 1; v < SIDE; v++) {
            for (int u = 0; u < v; u++) {
                exchangeCells(start + SIDE * v + u, start + SIDE * u + v);
            }
        }
    }

    private void exchangeCells(int a, int b) {
        int old = cells[a];
        cells[a] = cells[b];
        cells[b] = old;
    }

    // A row of blocks starts at a multiple of 64, so an index has the same low
    // bits as its place.
    private void negatePlaces(int oddBit) {
        for (int by = 0; by < height; by++) {
            int end = blockStart(width, by);
            for (int i = blockStart(0, by); i < end; i++) {
                if ((i & oddBit) != 0) {
                    cells[i] = -cells[i];
                }
            }
        }
    }

    private int countNotZero() {
        int count = 0;
        for (int by = 0; by < height; by++) {
            int end = blockStart(width, by);
            for (int i = blockStart(0, by); i < end; i++) {
                if (cells[i] != 0) {
                    count++;
                }
            }
        }
        return count;
    }

    private int greatestSize() {
        int greatest = 0;
        for (int by = 0; by < height; by++) {
            int end = blockStart(width, by);
            for (int i = blockStart(0, by); i < end; i++) {
                greatest = Math.max(greatest, Math.abs(cells[i]));
            }
        }
        return greatest;
    }
}
