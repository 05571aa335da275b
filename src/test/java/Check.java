/** Counts the answers that are not as due, and prints them. */
final class Check {
    private static int checks = 0;
    private static int wrong = 0;

    private Check() {
    }

    static void same(String what, long got, long due) {
        checks++;
        if (got != due) {
            fail(what + " answered " + got + ", due is " + due);
        }
    }

    static void same(String what, boolean got, boolean due) {
        same(what, got ? 1L : 0L, due ? 1L : 0L);
    }

    static void sameDouble(String what, double got, double due) {
        checks++;
        if (Double.compare(got, due) != 0) {
            fail(what + " answered " + got + ", due is " + due);
        }
    }

    static void illegalArgument(HelpDesk desk, String what, Runnable call) {
        thrown(desk, what, call, IllegalArgumentException.class);
    }

    static void illegalState(HelpDesk desk, String what, Runnable call) {
        thrown(desk, what, call, IllegalStateException.class);
    }

    static void outOfBounds(HelpDesk desk, String what, Runnable call) {
        thrown(desk, what, call, IndexOutOfBoundsException.class);
    }

    /** A call that throws must throw exactly the exception that is due, and change nothing. */
    private static void thrown(HelpDesk desk, String what, Runnable call, Class<?> due) {
        checks++;
        long before = desk.digest();
        Class<?> got = null;
        try {
            call.run();
        } catch (RuntimeException e) {
            got = e.getClass();
            byItself(what, e);
        }
        if (got != due) {
            fail(what + " threw " + (got == null ? "nothing" : got.getName())
                    + ", due is " + due.getName());
        }
        if (desk.digest() != before) {
            fail(what + " changed the desk");
        }
    }

    /** The program throws its exceptions itself: neither the machine nor the library does it. */
    static void byItself(String what, Throwable thrown) {
        StackTraceElement[] trace = thrown.getStackTrace();
        if (trace.length == 0 || !trace[0].getClassName().startsWith("HelpDesk")) {
            fail(what + " threw by itself: " + thrown);
        }
    }

    static void fail(String message) {
        wrong++;
        System.out.println(message);
    }

    static void finish(String test) {
        System.out.println(test + ": " + checks + " checks, " + wrong + " wrong");
        if (wrong != 0) {
            System.exit(1);
        }
    }
}
