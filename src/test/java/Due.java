/** What the tests share: compares answers with what is due, and ends the run. */
final class Due {
    private String part = "";
    private int wrong = 0;
    private int looked = 0;

    void part(String name) {
        part = name;
    }

    void is(String call, long got, long want) {
        looked++;
        if (got != want) {
            wrong++;
            System.out.println(part + ": " + call + " answered " + got + ", due is " + want);
        }
    }

    void is(String call, boolean got, boolean want) {
        is(call, got ? 1L : 0L, want ? 1L : 0L);
    }

    void isTrue(String what, boolean holds) {
        is(what, holds, true);
    }

    void shareThrows(FacetRows x, int facet, int v, int side) {
        boolean thrown = false;
        try {
            x.share(facet, v, side);
        } catch (ArithmeticException e) {
            thrown = true;
        }
        is("share(" + facet + ", " + v + ", " + side + ") throws ArithmeticException", thrown, true);
    }

    void end() {
        System.out.println(looked + " answers looked at, " + wrong + " not as due");
        if (wrong != 0 || looked == 0) {
            System.exit(1);
        }
    }
}
