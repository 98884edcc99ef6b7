/** Counts what is not as due; every test ends with end(). */
final class Expect {
    interface Call {
        long answer();
    }

    private static int checks = 0;
    private static int wrong = 0;

    private Expect() {
    }

    static void same(String what, long due, long got) {
        checks++;
        if (got != due) {
            report(what + " answered " + got + ", due is " + due);
        }
    }

    static void yes(String what, boolean got) {
        same(what, 1, got ? 1 : 0);
    }

    static void no(String what, boolean got) {
        same(what, 0, got ? 1 : 0);
    }

    static void noPlace(String what, Call call) {
        fails(what, IndexOutOfBoundsException.class, call);
    }

    static void full(String what, Call call) {
        fails(what, IllegalStateException.class, call);
    }

    // The very class is due: one of its subclasses would come from the machine, not from the program.
    private static void fails(String what, Class<?> due, Call call) {
        checks++;
        try {
            report(what + " answered " + call.answer() + ", due is " + due.getName());
        } catch (RuntimeException e) {
            if (e.getClass() != due) {
                report(what + " threw " + e + ", due is " + due.getName());
            }
        }
    }

    private static void report(String text) {
        wrong++;
        if (wrong <= 50) {
            System.out.println(text);
        }
    }

    static void end() {
        System.out.println(checks + " checks, " + wrong + " wrong");
        if (wrong != 0) {
            System.exit(1);
        }
    }
}
