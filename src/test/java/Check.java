/** Counts what is not as it should be, and ends a test's main method with its exit code. */
final class Check {
    static final Class<?> INDEX = IndexOutOfBoundsException.class;
    static final Class<?> ARGUMENT = IllegalArgumentException.class;
    static final Class<?> STATE = IllegalStateException.class;

    private static int checks = 0;
    private static int failures = 0;

    /** A call that answers a number. */
    interface Call {
        long answer();
    }

    private Check() {
    }

    static void same(String what, long got, long due) {
        checks++;
        if (got != due) {
            failures++;
            System.out.println(what + " answered " + got + ", due is " + due);
        }
    }

    static void isTrue(String what, boolean holds) {
        same(what, holds ? 1 : 0, 1);
    }

    /** The call has to throw exactly this exception, and leave the state as it was. */
    static void refused(String what, MasterPins pins, Class<?> due, Call call) {
        checks++;
        long before = pins.digest();
        Class<?> thrown = null;
        try {
            call.answer();
        } catch (RuntimeException e) {
            thrown = e.getClass();
        }
        if (thrown != due) {
            failures++;
            System.out.println(what + " threw " + thrown + ", due is " + due);
        }
        same(what + " leaves the digest", pins.digest(), before);
    }

    /** Types a whole text of commands, in place of the one that is there. */
    static void typed(MasterPins pins, String commands) {
        pins.clearCommands();
        for (int place = 0; place < commands.length(); place++) {
            pins.type(commands.charAt(place));
        }
    }

    static void finish(String test) {
        System.out.println(test + ": " + checks + " checks, " + failures + " failures");
        if (failures > 0) {
            System.exit(1);
        }
    }
}
