/** Counts and prints the answers that are not the due ones. */
final class Due {
    private String sentence = "";
    private int asked = 0;
    private int wrong = 0;

    /** Runs the test of one sentence of the document; one that asks for no answer fails. */
    void of(String sentence, Runnable test) {
        this.sentence = "[" + sentence + "] ";
        int before = asked;
        try {
            test.run();
        } catch (RuntimeException e) {
            tellWrong("threw " + e);
        }
        if (asked == before) {
            tellWrong("no answer was asked for");
        }
        this.sentence = "";
    }

    void is(String call, long got, long want) {
        asked++;
        if (got != want) {
            tellWrong(call + " answered " + got + ", due is " + want);
        }
    }

    void is(String call, boolean got, boolean want) {
        is(call, got ? 1 : 0, want ? 1 : 0);
    }

    /** What was thrown is due to be of just this class, and thrown by CoefTurns itself. */
    void isThrown(String call, RuntimeException got, Class<? extends RuntimeException> want) {
        asked++;
        if (got == null) {
            tellWrong(call + " threw nothing, due is " + want.getName());
        } else if (got.getClass() != want) {
            tellWrong(call + " threw " + got + ", due is " + want.getName());
        } else if (!got.getStackTrace()[0].getClassName().equals("CoefTurns")) {
            tellWrong(call + " threw " + got + " from the library");
        }
    }

    void tellWrong(String text) {
        wrong++;
        System.out.println(sentence + text);
    }

    /** Ends the test: with exit code 1 if an answer was wrong, or none was asked for. */
    void end() {
        System.out.println(asked + " answers, " + wrong + " not as due");
        if (wrong != 0 || asked == 0) {
            System.exit(1);
        }
    }

    static RuntimeException thrownByPut(CoefTurns x, int bx, int by, int place, int value) {
        try {
            x.put(bx, by, place, value);
            return null;
        } catch (RuntimeException e) {
            return e;
        }
    }

    static RuntimeException thrownBySum(CoefTurns x, int place) {
        try {
            x.sum(place);
            return null;
        } catch (RuntimeException e) {
            return e;
        }
    }
}
