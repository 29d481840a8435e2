/** What the tests share: compares answers with what is due, and ends the run. */
final class Due {
    private String part = "";
    private int wrong = 0;
    private int looked = 0;

    void part(String name) {
        part = name;
    }

    void is(String call, long got, long want) {
        looked++;
        if (got != want) {
            wrong++;
            System.out.println(part + ": " + call + " answered " + got + ", due is " + want);
        }
    }

    void is(String call, boolean got, boolean want) {
        is(call, got ? 1L : 0L, want ? 1L : 0L);
    }

    void is(String what, String got, String want) {
        looked++;
        if (!got.equals(want)) {
            wrong++;
            System.out.println(part + ": " + what + ": " + got + ", due is: " + want);
        }
    }

    void isTrue(String what, boolean holds) {
        is(what, holds, true);
    }

    void shareThrows(FacetRows x, int facet, int v, int side) {
        boolean thrown = false;
        try {
            x.share(facet, v, side);
        } catch (ArithmeticException e) {
            thrown = !isOfTheMachine(e);
        }
        is("share(" + facet + ", " + v + ", " + side + ") throws ArithmeticException", thrown, true);
    }

    // A division by zero must not pass for the exception that the document
    // wants; the machine's own text tells it.
    static boolean isOfTheMachine(ArithmeticException e) {
        return "/ by zero".equals(e.getMessage());
    }

    void end() {
        System.out.println(looked + " answers looked at, " + wrong + " not as due");
        if (wrong != 0 || looked == 0) {
            System.exit(1);
        }
    }
}
