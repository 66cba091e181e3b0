/** Counts and prints answers that are not as due. */
final class Checks {
    private int made = 0;
    private int wrong = 0;
    private String saying = "";

    /** A test of one sentence of the document; the sentence stands before what goes wrong in it. */
    void sentence(String words, Runnable test) {
        int before = made;
        saying = "[" + words + "] ";
        try {
            test.run();
        } catch (RuntimeException e) {
            tell("threw " + e);
        }
        if (made == before) {
            tell("is not tested");
        }
        saying = "";
    }

    void due(String call, long got, long want) {
        made++;
        if (got != want) {
            tell(call + " answered " + got + ", due is " + want);
        }
    }

    void due(String call, boolean got, boolean want) {
        made++;
        if (got != want) {
            tell(call + " answered " + got + ", due is " + want);
        }
    }

    void due(String call, String got, String want) {
        made++;
        if (!got.equals(want)) {
            tell(call + " answered '" + got + "', due is '" + want + "'");
        }
    }

    /** The call must throw by a throw statement of the class, not by the machine's own means. */
    void noSuchPlace(String call, Runnable body) {
        made++;
        try {
            body.run();
        } catch (ArrayIndexOutOfBoundsException e) {
            if (!"no such place".equals(e.getMessage())) {
                tell(call + " let the machine throw: " + e.getMessage());
            }
            return;
        } catch (RuntimeException e) {
            tell(call + " threw " + e);
            return;
        }
        tell(call + " threw nothing");
    }

    private void tell(String what) {
        wrong++;
        System.out.println(saying + what);
    }

    /** Ends the program with exit code 1 when an answer was wrong. */
    void finish() {
        System.out.println(made + " checks, " + wrong + " wrong");
        if (wrong != 0) {
            System.exit(1);
        }
    }
}
