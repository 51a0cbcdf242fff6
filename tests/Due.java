/** Tells every answer that is not the one due, and ends the run with exit code 1 if there was one. */
final class Due {
    private static int asked = 0;
    private static int wrong = 0;

    private Due() {
    }

    static void be(String what, long got, long due) {
        asked++;
        if (got != due) {
            wrong++;
            System.out.println(what + " answered " + got + ", due is " + due);
        }
    }

    /** Answers of a row of calls that are alike, in their order. */
    static void row(String what, long[] got, long... due) {
        be(what + ": how many", got.length, due.length);
        for (int i = 0; i < got.length && i < due.length; i++) {
            be(what + " [" + i + "]", got[i], due[i]);
        }
    }

    static void end(String name) {
        System.out.println(name + ": " + asked + " answers, " + wrong + " not as due");
        if (wrong > 0) {
            System.exit(1);
        }
    }
}
