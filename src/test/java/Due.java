/** Compares answers with those that are due, for the tests of the project. */
final class Due {
    private static int checks = 0;
    private static int wrong = 0;

    private Due() {
    }

    static void due(String what, long got, long want) {
        checks++;
        if (got != want) {
            tell(what, String.valueOf(got), String.valueOf(want));
        }
    }

    static void due(String what, boolean got, boolean want) {
        checks++;
        if (got != want) {
            tell(what, String.valueOf(got), String.valueOf(want));
        }
    }

    static void due(String what, String got, String want) {
        checks++;
        if (!got.equals(want)) {
            tell(what, got, want);
        }
    }

    /** The call throws exactly this exception, not one below or above it. */
    static void dueThrow(String what, Class<? extends RuntimeException> want, Runnable call) {
        checks++;
        String got = "nothing";
        try {
            call.run();
        } catch (RuntimeException e) {
            if (e.getClass() == want) {
                return;
            }
            got = e.getClass().getName();
        }
        tell(what + " throws", got, want.getName());
    }

    /** The last line of every test's main method. */
    static void end() {
        if (wrong != 0) {
            System.out.println(wrong + " of " + checks + " answers are not as due");
            System.exit(1);
        }
        if (checks == 0) {
            System.out.println("nothing was checked");
            System.exit(1);
        }
    }

    private static void tell(String what, String got, String want) {
        wrong++;
        System.out.println(what + ": answered " + got + ", due is " + want);
    }
}
