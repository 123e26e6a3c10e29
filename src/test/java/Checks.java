/** Counts and prints the answers that are not as due. */
final class Checks {
    /** A call without an answer. */
    interface Deed {
        void make();
    }

    private int wrong;
    private int made;

    void due(String what, long got, long want) {
        made++;
        if (got != want) {
            wrong++;
            System.out.println(what + " answered " + got + ", due is " + want);
        }
    }

    void due(String what, boolean got, boolean want) {
        due(what, got ? 1 : 0, want ? 1 : 0);
    }

    void same(String what, String got, String want) {
        made++;
        if (!got.equals(want)) {
            wrong++;
            System.out.println(what + " answered " + got + ", due is " + want);
        }
    }

    void badArgument(String what, Deed deed) {
        same(what, thrown(deed), "IllegalArgumentException");
    }

    void badState(String what, Deed deed) {
        same(what, thrown(deed), "IllegalStateException");
    }

    void fine(String what, Deed deed) {
        same(what, thrown(deed), "nothing");
    }

    private static String thrown(Deed deed) {
        try {
            deed.make();
            return "nothing";
        } catch (RuntimeException e) {
            return e.getClass().getSimpleName();
        }
    }

    boolean anyWrong() {
        return wrong != 0;
    }

    void end() {
        if (made == 0 || wrong != 0) {
            System.out.println(wrong + " of " + made + " answers are not as due");
            System.exit(1);
        }
    }
}
