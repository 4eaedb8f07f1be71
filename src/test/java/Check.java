/** Counts what is not as it should be, and ends a test's main method with its exit code. */
final class Check {
    static final Class<?> INDEX = IndexOutOfBoundsException.class;
    static final Class<?> ARGUMENT = IllegalArgumentException.class;
    static final Class<?> STATE = IllegalStateException.class;

    private static final long THROWS_INDEX = Long.MIN_VALUE;
    private static final long THROWS_ARGUMENT = Long.MIN_VALUE + 1;
    private static final long THROWS_STATE = Long.MIN_VALUE + 2;
    private static final long THROWS_OTHER = Long.MIN_VALUE + 3;
    private static final int MORE_THAN_STATES = 6;

    private static int checks = 0;
    private static int failures = 0;
    private static String sentence = "";

    /** A call that answers a number. */
    interface Call {
        long answer();
    }

    /** Builds an object; each time the same one, by the same calls. */
    interface Build {
        MasterPins make();
    }

    /** A call on an object that a test builds. */
    interface Act {
        long on(MasterPins x);
    }

    /** A call on an object with a value that a test goes through. */
    interface ActWith {
        long on(MasterPins x, int value);
    }

    private Check() {
    }

    /** Begins the test of a sentence: what fails from here on is told with its part and its words. */
    static void sentence(String part, String words) {
        Document.quote(part, words);
        sentence = part + " \"" + words + "\": ";
    }

    /** Ends the last sentence's test: the checks behind it are of no sentence. */
    static void endSentence() {
        sentence = "";
    }

    static void same(String what, long got, long due) {
        checks++;
        if (got != due) {
            failures++;
            System.out.println(sentence + what + " answered " + told(got) + ", due is " + told(due));
        }
    }

    static void isTrue(String what, boolean holds) {
        same(what, holds ? 1 : 0, 1);
    }

    /** An answer, or a number far off for each exception. */
    static long outcome(Call call) {
        try {
            return call.answer();
        } catch (RuntimeException e) {
            Class<?> thrown = e.getClass();
            return thrown == INDEX ? THROWS_INDEX
                    : thrown == ARGUMENT ? THROWS_ARGUMENT
                    : thrown == STATE ? THROWS_STATE : THROWS_OTHER;
        }
    }

    private static long outcomeOf(Class<?> thrown) {
        return thrown == INDEX ? THROWS_INDEX : thrown == ARGUMENT ? THROWS_ARGUMENT : THROWS_STATE;
    }

    private static String told(long outcome) {
        return outcome == THROWS_INDEX ? "throws.IndexOutOfBoundsException"
                : outcome == THROWS_ARGUMENT ? "throws.IllegalArgumentException"
                : outcome == THROWS_STATE ? "throws.IllegalStateException"
                : outcome == THROWS_OTHER ? "throws.another" : Long.toString(outcome);
    }

    static void thrown(String what, Class<?> due, Call call) {
        same(what, outcome(call), outcomeOf(due));
    }

    /** The call has to throw exactly this exception, and leave the state as it was. */
    static void refused(String what, MasterPins pins, Class<?> due, Call call) {
        long before = pins.digest();
        thrown(what, due, call);
        same(what + " leaves the digest", pins.digest(), before);
    }

    /** As above, and what the digest does not show, the saved states and the text, stays too. */
    static void refused(String what, Build build, Class<?> due, Act act) {
        MasterPins x = build.make();
        thrown(what, due, () -> act.on(x));
        sameState(what + " is refused", x, build.make());
    }

    static void refusedFor(String what, int[] values, Build build, Class<?> due, ActWith act) {
        for (int value : values) {
            refused(what + " with " + value, build, due, x -> act.on(x, value));
        }
    }

    static void changesNothing(String what, Build build, Act act) {
        MasterPins x = build.make();
        act.on(x);
        sameState(what + " changes nothing", x, build.make());
    }

    /** The object that is built has to have three saved states at the most. */
    static void undoable(String what, Build build, Act act) {
        MasterPins x = build.make();
        act.on(x);
        isTrue(what + " can be undone", outcome(x::undo) >= 0);
        sameState(what + " is undone", x, build.make());
    }

    /** Takes both objects apart: their saved states one by one, and at last their texts. */
    static void sameState(String what, MasterPins x, MasterPins y) {
        for (int undone = 0; undone < MORE_THAN_STATES; undone++) {
            same(what + ": digest after undo " + undone, x.digest(), y.digest());
            same(what + ": undo " + undone, outcome(x::undo), outcome(y::undo));
        }
        same(what + ": run of the text", x.runCommands(), y.runCommands());
        same(what + ": digest after the run", x.digest(), y.digest());
    }

    /** Types a whole text of commands, in place of the one that is there. */
    static void typed(MasterPins pins, String commands) {
        pins.clearCommands();
        for (int place = 0; place < commands.length(); place++) {
            pins.type(commands.charAt(place));
        }
    }

    static void finish(String test) {
        System.out.println(test + ": " + checks + " checks, " + failures + " failures");
        if (failures > 0) {
            System.exit(1);
        }
    }
}
