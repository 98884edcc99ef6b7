/** Counts what is not as due; every test ends with end(). */
final class Expect {
    interface Answer {
        Object get();
    }

    private static int sentences = 0;
    private static int checks = 0;
    private static int wrong = 0;
    private static String heading = "";

    private Expect() {
    }

    /** The test of one sentence; where tells the promise, or the part of the document. */
    static void sentence(String where, String words, Runnable test) {
        test(where + ", \"" + words + "\": ", test);
    }

    /** The test of one side of a sentence that has several. */
    static void sentence(String where, String words, String side, Runnable test) {
        test(where + ", \"" + words + "\", " + side + ": ", test);
    }

    private static void test(String name, Runnable test) {
        heading = name;
        int before = checks;
        sentences++;
        try {
            test.run();
        } catch (RuntimeException e) {
            report("threw " + e);
        }
        if (checks == before) {
            report("has no check");
        }
        heading = "";
    }

    static void same(String what, long due, long got) {
        checks++;
        if (got != due) {
            report(what + " answered " + got + ", due is " + due);
        }
    }

    static void sameText(String what, String due, String got) {
        checks++;
        if (!got.equals(due)) {
            report(what + " was " + got + ", due is " + due);
        }
    }

    static void yes(String what, boolean got) {
        same(what, 1, got ? 1 : 0);
    }

    static void no(String what, boolean got) {
        same(what, 0, got ? 1 : 0);
    }

    static void noPlace(String what, Answer call) {
        sameText(what, "throws.IndexOutOfBoundsException", told(call));
    }

    static void full(String what, Answer call) {
        sameText(what, "throws.IllegalStateException", told(call));
    }

    // The class's very name: a subclass of it would come from the machine, not from the program.
    static String told(Answer call) {
        try {
            return String.valueOf(call.get());
        } catch (RuntimeException e) {
            return "throws." + e.getClass().getSimpleName();
        }
    }

    static void report(String text) {
        wrong++;
        if (wrong <= 50) {
            System.out.println(heading + text);
        }
    }

    static void end() {
        String tested = sentences == 0 ? "" : sentences + " sentences, ";
        System.out.println(tested + checks + " checks, " + wrong + " wrong");
        if (wrong != 0) {
            System.exit(1);
        }
    }
}
