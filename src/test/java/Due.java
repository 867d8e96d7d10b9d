/** Counts and prints the answers that are not the due ones. */
final class Due {
    private int asked = 0;
    private int wrong = 0;

    void is(String call, long got, long want) {
        asked++;
        if (got != want) {
            tellWrong(call + " answered " + got + ", due is " + want);
        }
    }

    void is(String call, boolean got, boolean want) {
        is(call, got ? 1 : 0, want ? 1 : 0);
    }

    /** What was thrown is due to be of just this class, and thrown by CoefTurns itself. */
    void isThrown(String call, RuntimeException got, Class<? extends RuntimeException> want) {
        asked++;
        if (got == null) {
            tellWrong(call + " threw nothing, due is " + want.getName());
        } else if (got.getClass() != want) {
            tellWrong(call + " threw " + got + ", due is " + want.getName());
        } else if (!got.getStackTrace()[0].getClassName().equals("CoefTurns")) {
            tellWrong(call + " threw " + got + " from the library");
        }
    }

    void tellWrong(String text) {
        wrong++;
        System.out.println(text);
    }

    /** Ends the test: with exit code 1 if an answer was wrong, or none was asked for. */
    void end() {
        System.out.println(asked + " answers, " + wrong + " not as due");
        if (wrong != 0 || asked == 0) {
            System.exit(1);
        }
    }

    static RuntimeException thrownByPut(CoefTurns x, int bx, int by, int place, int value) {
        try {
            x.put(bx, by, place, value);
            return null;
        } catch (RuntimeException e) {
            return e;
        }
    }

    static RuntimeException thrownBySum(CoefTurns x, int place) {
        try {
            x.sum(place);
            return null;
        } catch (RuntimeException e) {
            return e;
        }
    }
}
