/** Counts the answers that are not the due ones, and prints each. */
final class Checks {
    private int made;
    private int wrong;
    private String about = "";

    /** A test of one sentence of the document; it must make a check. */
    void about(String sentence, Runnable test) {
        int before = made;
        about = sentence + ": ";
        test.run();
        about = "";
        due(sentence + " is checked", made > before, true);
    }

    void due(String what, long got, long want) {
        made++;
        if (got != want) {
            wrong++;
            System.out.println(about + what + " answered " + got + ", due is " + want);
        }
    }

    void due(String what, boolean got, boolean want) {
        due(what, got ? 1 : 0, want ? 1 : 0);
    }

    void illegalArgument(String what, Runnable call) {
        throwing(what, call, IllegalArgumentException.class);
    }

    void illegalState(String what, Runnable call) {
        throwing(what, call, IllegalStateException.class);
    }

    private void throwing(String what, Runnable call, Class<?> want) {
        made++;
        Object got = "nothing";
        try {
            call.run();
        } catch (RuntimeException e) {
            got = e.getClass();
        }
        if (got != want) {
            wrong++;
            System.out.println(about + what + " threw " + got + ", due is " + want);
        }
    }

    /** Ends the program with exit code 1 if one was wrong. */
    void end(String name) {
        System.out.println(name + ": " + made + " checks, " + wrong + " wrong");
        if (wrong != 0 || made == 0) {
            System.exit(1);
        }
    }
}
