/** Each promise by itself on ordinary inputs, with answers worked out by hand from the document. */
public final class PromisesTest {
    private static final Due due = new Due();

    public static void main(String[] args) {
        due.of("promise 1: A new object", PromisesTest::newObject);
        due.of("promise 2: put", PromisesTest::put);
        due.of("promise 3: fill", PromisesTest::fill);
        due.of("promise 4: transpose", PromisesTest::transpose);
        due.of("promise 5: mirror", PromisesTest::mirror);
        due.of("promise 6: flip", PromisesTest::flip);
        due.of("promise 7: turn", PromisesTest::turn);
        due.of("promise 8: crop", PromisesTest::crop);
        due.of("promise 9: swap", PromisesTest::swap);
        due.of("promise 10: keep", PromisesTest::keep);
        due.of("promise 11: restore", PromisesTest::restore);
        due.of("promise 12: differ", PromisesTest::differ);
        due.of("promise 13: at", PromisesTest::at);
        due.of("promise 14: four", PromisesTest::four);
        due.of("promise 15: sum", PromisesTest::sum);
        due.of("promise 16: look", PromisesTest::look);
        due.end();
    }

    /** 3 by 2 blocks with five coefficients that are not 0. */
    private static CoefTurns sample() {
        CoefTurns x = new CoefTurns(3, 2);
        x.put(0, 0, 0, 10);
        x.put(0, 0, 1, 11);
        x.put(2, 0, 8, 12);
        x.put(1, 1, 8 * 3 + 5, -13);
        x.put(2, 1, 8 * 2 + 6, 14);
        return x;
    }

    private static void newObject() {
        CoefTurns x = new CoefTurns(3, 2);
        Planes.hasSize(due, "new", x, 3, 2);
        due.is("kept W", x.look(4), 3);
        due.is("kept H", x.look(5), 2);
        due.is("not 0", x.look(2), 0);
        due.is("differ", x.differ(), 0);
    }

    private static void put() {
        CoefTurns x = new CoefTurns(3, 2);
        x.put(1, 1, 20, 4);
        due.is("put", x.at(1, 1, 20), 4);
        x.put(1, 1, 20, -5);
        due.is("put again", x.at(1, 1, 20), -5);
        due.is("not 0", x.look(2), 1);
        x.put(1, 1, 20, 0);
        due.is("not 0 after a put of 0", x.look(2), 0);
    }

    private static void fill() {
        CoefTurns x = new CoefTurns(8, 8);
        x.fill(0);
        int[][] due0 = {
            {0, 0, 0, -1023}, {0, 0, 1, -79}, {0, 0, 63, -917}, {1, 0, 0, 27}, {7, 0, 0, 179}, {0, 1, 0, -819},
            {7, 7, 63, -333}};
        for (int[] a : due0) {
            due.is("fill 0: at " + a[0] + ", " + a[1] + ", " + a[2], x.at(a[0], a[1], a[2]), a[3]);
        }
    }

    private static void transpose() {
        CoefTurns x = sample();
        x.transpose();
        Planes.hasSize(due, "transposed", x, 2, 3);
        due.is("place 0", x.at(0, 0, 0), 10);
        due.is("(0, 1) to (1, 0)", x.at(0, 0, 8), 11);
        due.is("(1, 0) to (0, 1)", x.at(0, 2, 1), 12);
        due.is("(3, 5) to (5, 3)", x.at(1, 1, 8 * 5 + 3), -13);
        due.is("(2, 6) to (6, 2)", x.at(1, 2, 8 * 6 + 2), 14);
        due.is("not 0", x.look(2), 5);
    }

    private static void mirror() {
        CoefTurns x = sample();
        x.mirror();
        Planes.hasSize(due, "mirrored", x, 3, 2);
        due.is("place 0", x.at(2, 0, 0), 10);
        due.is("u 1", x.at(2, 0, 1), -11);
        due.is("v 1, u 0", x.at(0, 0, 8), 12);
        due.is("v 3, u 5", x.at(1, 1, 8 * 3 + 5), 13);
        due.is("v 2, u 6", x.at(0, 1, 8 * 2 + 6), 14);
        due.is("not 0", x.look(2), 5);
    }

    private static void flip() {
        CoefTurns x = sample();
        x.flip();
        Planes.hasSize(due, "flipped", x, 3, 2);
        due.is("place 0", x.at(0, 1, 0), 10);
        due.is("v 0, u 1", x.at(0, 1, 1), 11);
        due.is("v 1", x.at(2, 1, 8), -12);
        due.is("v 3, u 5", x.at(1, 0, 8 * 3 + 5), 13);
        due.is("v 2, u 6", x.at(2, 0, 8 * 2 + 6), 14);
        due.is("not 0", x.look(2), 5);
    }

    private static void turn() {
        CoefTurns x = sample();
        x.turn(1);
        Planes.hasSize(due, "turned", x, 2, 3);
        due.is("place 0", x.at(1, 0, 0), 10);
        due.is("(0, 1) to (1, 0)", x.at(1, 0, 8), 11);
        due.is("(1, 0) to (0, 1)", x.at(1, 2, 1), -12);
        due.is("(3, 5) to (5, 3)", x.at(0, 1, 8 * 5 + 3), 13);
        due.is("(2, 6) to (6, 2)", x.at(0, 2, 8 * 6 + 2), 14);
        due.is("not 0", x.look(2), 5);
    }

    private static void crop() {
        CoefTurns x = sample();
        due.is("crop", x.crop(1, 0, 2, 2), true);
        Planes.hasSize(due, "cropped", x, 2, 2);
        due.is("block 2, 0", x.at(1, 0, 8), 12);
        due.is("block 1, 1", x.at(0, 1, 8 * 3 + 5), -13);
        due.is("block 2, 1", x.at(1, 1, 8 * 2 + 6), 14);
        due.is("not 0", x.look(2), 3);
    }

    private static void swap() {
        CoefTurns x = sample();
        due.is("swap", x.swap(0, 0, 2, 1), true);
        due.is("the one", x.at(2, 1, 1), 11);
        due.is("the other", x.at(0, 0, 8 * 2 + 6), 14);
        due.is("a third", x.at(1, 1, 8 * 3 + 5), -13);
        due.is("not 0", x.look(2), 5);
    }

    private static void keep() {
        CoefTurns x = sample();
        x.keep();
        due.is("differ", x.differ(), 0);
        x.put(0, 0, 0, 9);
        due.is("differ after a put", x.differ(), 1);
        x.turn(1);
        due.is("kept W", x.look(4), 3);
        due.is("kept H", x.look(5), 2);
    }

    private static void restore() {
        CoefTurns x = sample();
        x.keep();
        x.turn(1);
        x.put(0, 0, 0, 9);
        x.restore();
        Planes.hasSize(due, "restored", x, 3, 2);
        due.is("block 0, 0", x.at(0, 0, 0), 10);
        due.is("block 1, 1", x.at(1, 1, 8 * 3 + 5), -13);
        due.is("not 0", x.look(2), 5);
        due.is("differ", x.differ(), 0);
    }

    private static void differ() {
        CoefTurns x = sample();
        due.is("differ from the new", x.differ(), 5);
        x.keep();
        x.put(2, 1, 63, -1);
        x.put(0, 0, 0, 0);
        due.is("differ by two", x.differ(), 2);
        x.put(2, 1, 63, 0);
        due.is("differ by one", x.differ(), 1);
    }

    private static void at() {
        CoefTurns x = sample();
        due.is("at", x.at(1, 1, 8 * 3 + 5), -13);
        due.is("at 0", x.at(1, 1, 8 * 3 + 4), 0);
    }

    private static void four() {
        CoefTurns x = sample();
        due.is("half 0", x.four(0, 0, 0, 0), 0x000A_000B_0000_0000L);
        due.is("half 1", x.four(1, 1, 3, 1), 0x0000_FFF3_0000_0000L);
        due.is("half 1 of v 2", x.four(2, 1, 2, 1), 0x0000_0000_000E_0000L);
    }

    private static void sum() {
        CoefTurns x = new CoefTurns(3, 2);
        x.put(0, 0, 7, 10);
        x.put(2, 0, 7, 100);
        x.put(1, 1, 7, -1);
        x.put(1, 1, 8, 1000);
        due.is("sum", x.sum(7), 10 + 3 * 100 - 10);
        due.is("sum of another place", x.sum(8), 10 * 1000);
        due.is("sum of zeros", x.sum(0), 0);
    }

    private static void look() {
        CoefTurns x = sample();
        x.keep();
        x.transpose();
        int[] want = {2, 3, 5, 14, 3, 2};
        for (int which = 0; which < want.length; which++) {
            due.is("look " + which, x.look(which), want[which]);
        }
    }
}
