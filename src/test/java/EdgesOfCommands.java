/** The edges of promises 24 to 28: command text, undo and checksum. */
final class EdgesOfCommands {
    private static final int NONE = MasterPins.NONE;
    private static final String ALLS = "all;".repeat(37);

    private EdgesOfCommands() {
    }

    static void run() {
        appendsAByte();
        typeValue();
        typeAnswer();
        typeRefused();
        typeFull();
        emptiesTheText();
        clearAnswer();
        runsTheText();
        runUndoable();
        runAnswer();
        restores();
        undoAnswer();
        undoRefused();
        digestOfTheState();
        digestStart();
        digestStep();
        digestValues();
        digestAnswer();
    }

    private static void says(int promise, String words) {
        Check.sentence("Promise " + promise, words);
    }

    private static MasterPins withText(int length) {
        MasterPins x = Systems.rich();
        Check.typed(x, " ".repeat(length));
        return x;
    }

    private static long ran(String text) {
        MasterPins x = new MasterPins();
        Check.typed(x, text);
        return x.runCommands();
    }

    // ---- promise 24

    private static void appendsAByte() {
        says(24, "Appends a byte to the command text.");
        MasterPins x = new MasterPins();
        String text = "master 123;";
        for (int place = 0; place < text.length(); place++) {
            x.type(text.charAt(place));
            Check.same("length", x.whole(13), place + 1);
        }
        Check.same("in their order", x.runCommands(), 1);
        Check.same("code", x.key(0, 0), 123);
        x.type('x');
        Check.same("behind those that are there", x.runCommands(), -10 - 11);
        Check.thrown("it is not undoable", Check.STATE, () -> {
            MasterPins y = new MasterPins();
            y.type('x');
            return y.undo();
        });
    }

    private static void typeValue() {
        says(24, "`value`: 0 to 127");
        MasterPins x = new MasterPins();
        for (int value = 0; value <= 127; value++) {
            Check.same("value " + value, x.type(value), value + 1);
        }
        int[] beyond = {-1, 128, 129, 255, 256, 256 + 32, -128, Integer.MIN_VALUE, Integer.MAX_VALUE};
        Check.refusedFor("value", beyond, Systems::rich, Check.ARGUMENT, MasterPins::type);
    }

    private static void typeAnswer() {
        says(24, "Returns the length of the text.");
        MasterPins x = new MasterPins();
        for (int length = 1; length <= 150; length++) {
            Check.same("length", x.type(';'), length);
        }
        x.clearCommands();
        Check.same("from the start again", x.type(';'), 1);
    }

    private static void typeRefused() {
        says(24, "Throws `IllegalArgumentException` if value is out of range");
        Check.refused("-1", MasterPins::new, Check.ARGUMENT, x -> x.type(-1));
        Check.refused("128", MasterPins::new, Check.ARGUMENT, x -> x.type(128));
        Check.refused("before the length", () -> withText(150), Check.ARGUMENT, x -> x.type(-1));
        Check.refused("before the length", () -> withText(150), Check.ARGUMENT, x -> x.type(128));
    }

    private static void typeFull() {
        says(24, "Throws `IllegalStateException` if the text has 150 bytes");
        Check.same("149 bytes", withText(149).type(0), 150);
        Check.refused("150 bytes", () -> withText(150), Check.STATE, x -> x.type(0));
        Check.refused("150 bytes", () -> withText(150), Check.STATE, x -> x.type(127));
        MasterPins x = withText(150);
        Check.thrown("refused", Check.STATE, () -> x.type('x'));
        Check.same("the text is as it was", x.runCommands(), 0);
    }

    // ---- promise 25

    private static void emptiesTheText() {
        says(25, "Empties the command text.");
        MasterPins x = Systems.rich();
        x.clearCommands();
        Check.same("length", x.whole(13), 0);
        Check.same("an empty text runs no command", x.runCommands(), 0);
        Check.same("the run saved its state", x.undo(), 3);
        MasterPins full = withText(150);
        full.clearCommands();
        Check.same("there is room again", full.type('a'), 1);
        Check.same("for other bytes alone", full.runCommands(), -10);
        MasterPins some = Systems.some();
        some.clearCommands();
        Check.typed(some, "find 2;cut 0 333;");
        Check.sameState("it is not undoable", some, Systems.some());
    }

    private static void clearAnswer() {
        says(25, "Returns the length that it had.");
        Check.same("empty", new MasterPins().clearCommands(), 0);
        for (int length = 0; length <= 150; length += 25) {
            MasterPins x = withText(length);
            Check.same("length", x.clearCommands(), length);
            Check.same("none then", x.clearCommands(), 0);
        }
    }

    // ---- promise 26

    private static void runsTheText() {
        says(26, "Runs the command text, which stays as it is.");
        MasterPins x = new MasterPins();
        Check.typed(x, "rule 1 2;master 123;door 0;");
        Check.same("run", x.runCommands(), 3);
        Check.same("length", x.whole(13), 27);
        Check.same("once more, until one is refused", x.runCommands(), 1);
        Check.same("keys", x.whole(5), 1);
        Check.same("doors", x.whole(6), 1);
        x.recut(0, 234);
        Check.same("once more, none is refused", x.runCommands(), 3);
        Check.same("keys", x.whole(5), 2);
        Check.same("doors", x.whole(6), 2);
        Check.typed(x, "fit 0;x");
        Check.same("with a fault", x.runCommands(), -16);
        Check.same("length", x.whole(13), 7);
        Check.same("the same fault again", x.runCommands(), -16);
    }

    private static void runUndoable() {
        says(26, "Undoable, if it has no fault.");
        Check.undoable("a run", Systems::some, MasterPins::runCommands);
        String[] texts = {"", " ", "all;", "fit 99;", "lose 0;lose 0;"};
        for (String text : texts) {
            Check.undoable("a run of '" + text + "'", () -> {
                MasterPins x = Systems.some();
                Check.typed(x, text);
                return x;
            }, MasterPins::runCommands);
        }
        String[] faults = {"x", "all", "lose 0;,", "lose 0;lose 1;fit"};
        for (String text : faults) {
            Check.changesNothing("a run of '" + text + "'", () -> {
                MasterPins x = Systems.some();
                Check.typed(x, text);
                return x;
            }, MasterPins::runCommands);
        }
    }

    private static void runAnswer() {
        says(26, "Returns the number of commands that were carried out; -10 minus the fault if it has one.");
        Check.same("none", ran(""), 0);
        Check.same("one", ran("all;"), 1);
        Check.same("as many as there can be", ran(ALLS + "  "), 37);
        Check.same("those before a refused one", ran(ALLS.substring(0, 140) + "fit 9;"), 35);
        Check.same("the first byte at fault", ran("?"), -10);
        Check.same("the second byte at fault", ran(" ?"), -11);
        Check.same("the last byte at fault", ran(ALLS + " ?"), -10 - 149);
        Check.same("at fault behind the last byte", ran(ALLS.substring(0, 144) + "fit 12"), -10 - 150);
        Check.same("a fault behind commands that would be refused", ran("fit 9;?"), -16);
    }

    // ---- promise 27

    private static void restores() {
        says(27, "Restores the latest saved state and removes it from the undo stack.");
        MasterPins x = Systems.allLost();
        x.begin(2, 2);
        x.undo();
        Check.same("chambers", x.whole(0), 4);
        Check.same("depths", x.whole(1), 6);
        Check.same("keys", x.whole(5), 16);
        Check.same("doors", x.whole(6), 12);
        Check.same("lost keys", x.whole(7), 16);
        Check.same("pins", x.whole(12), 12 * 24);
        MasterPins same = Systems.allLost();
        for (int key = 0; key < 16; key++) {
            for (int what = 0; what <= 6; what++) {
                Check.same("key " + key + ", value " + what, x.key(key, what), same.key(key, what));
            }
        }
        Check.same("free codes", x.freeCodes(), same.freeCodes());
        MasterPins twice = new MasterPins();
        twice.setRule(0, 1);
        twice.setRule(0, 2);
        twice.undo();
        Check.same("the latest one", twice.whole(2), 1);
        twice.undo();
        Check.same("the one before, as that was removed", twice.whole(2), 5);
        twice.setRule(0, 3);
        twice.undo();
        Check.same("a state that was saved since", twice.whole(2), 5);
        MasterPins later = Systems.some();
        later.undo();
        later.lose(0);
        later.undo();
        later.lose(1);
        later.fitAll();
        later.undo();
        later.undo();
        MasterPins due = Systems.some();
        due.undo();
        Check.sameState("a saved state is not changed by what follows", later, due);
    }

    private static void undoAnswer() {
        says(27, "Returns the number of states that are left on the stack.");
        MasterPins x = Systems.full();
        for (int left = 3; left >= 0; left--) {
            Check.same("left", x.undo(), left);
        }
        Check.same("doors of the oldest one", x.whole(6), 8);
        MasterPins one = new MasterPins();
        one.fitAll();
        Check.same("of one", one.undo(), 0);
    }

    private static void undoRefused() {
        says(27, "Throws `IllegalStateException` if the stack is empty");
        Check.refused("a new object", MasterPins::new, Check.STATE, MasterPins::undo);
        Check.refused("all undone", () -> {
            MasterPins x = Systems.rich();
            for (int undone = 0; undone < 4; undone++) {
                x.undo();
            }
            return x;
        }, Check.STATE, MasterPins::undo);
        Check.refused("calls that save none", () -> {
            MasterPins x = new MasterPins();
            Check.typed(x, "x");
            x.runCommands();
            x.freeCodes();
            x.digest();
            return x;
        }, Check.STATE, MasterPins::undo);
    }

    // ---- promise 28

    private static long hashOf(long start, long... values) {
        long hash = start;
        for (long value : values) {
            hash = 31 * hash + value;
        }
        return hash;
    }

    /** The hash by the document's words, from the values that the other calls answer. */
    private static long hashByCalls(MasterPins x, int states) {
        long hash = hashOf(43378, states);
        for (int what = 0; what <= 13; what++) {
            hash = hashOf(hash, x.whole(what));
        }
        for (int key = 0; key < x.whole(5); key++) {
            for (int what = 0; what <= 6; what++) {
                hash = hashOf(hash, x.key(key, what));
            }
        }
        for (int door = 0; door < x.whole(6); door++) {
            for (int what = 0; what <= 8; what++) {
                hash = hashOf(hash, x.door(door, what));
            }
            for (int chamber = 0; chamber < x.whole(0); chamber++) {
                hash = hashOf(hash, x.pins(door, chamber));
            }
        }
        for (int index = 0; index < x.whole(11); index++) {
            hash = hashOf(hash, x.work(index, 0), x.work(index, 1), x.work(index, 2));
        }
        for (int index = 0; index < x.whole(5); index++) {
            hash = hashOf(hash, x.byCode(index));
        }
        return hashOf(hash, x.freeCodes());
    }

    private static void digestOfTheState() {
        says(28, "`long digest()`: Returns a hash of the state.");
        Check.changesNothing("digest", Systems::rich, MasterPins::digest);
        Check.changesNothing("digest", Systems::full, MasterPins::digest);
        MasterPins x = Systems.rich();
        Check.same("again", x.digest(), x.digest());
        Check.isTrue("another state, another hash", x.digest() != Systems.some().digest());
    }

    private static void digestStart() {
        says(28, "It starts with h = 43378.");
        long due = hashOf(43378, 0, 3, 5, 5, 1, 1, 0, 0, 0, 0, 0, 0, 0, 0, 0, 125);
        Check.same("new object", new MasterPins().digest(), due);
    }

    private static void digestStep() {
        says(28, "For each of the following values v, in this order, h becomes 31 * h + v (long arithmetic, overflow wraps).");
        // 31 ^ 16 * 43378 is more than a long holds.
        MasterPins x = new MasterPins();
        x.setRule(0, 2);
        Check.same("with one state", x.digest(), hashOf(43378, 1, 3, 5, 2, 1, 1, 0, 0, 0, 0, 0, 0, 0, 0, 0, 75));
        x.addKey(0, NONE);
        Check.same("with a key without master", x.digest(),
                hashOf(43378, 2, 3, 5, 2, 1, 1, 1, 0, 0, 0, 0, 0, 0, 0, 0, 0, -1, 0, 0, 0, 0, 0, 0, 74));
    }

    private static void digestValues() {
        says(28, "the number of states on the undo stack; whole() of 0 to 13; for each key key() of 0 to 6; for each door door() "
                + "of 0 to 8 and pins() of each chamber; for each work work() of 0 to 2; for each place in the order of codes "
                + "byCode(); freeCodes().");
        MasterPins[] systems = {new MasterPins(), Systems.withKeys(2, 2), Systems.withKeys(2, 6, 55, 0), Systems.rich(),
            Systems.some(), Systems.full(), Systems.allLost(), withText(150)};
        int[] states = {0, 1, 3, 4, 3, 4, 4, 4};
        for (int index = 0; index < systems.length; index++) {
            Check.same("system " + index, systems[index].digest(), hashByCalls(systems[index], states[index]));
        }
        // Keys 000 and 011 below it, lost; door 0 of key 1, of which the pins 1 and 1 are to go.
        MasterPins x = Systems.withKeys(3, 5, 0);
        x.addKey(11, 0);
        x.addDoor(1);
        x.lose(1);
        long due = hashOf(43378, 4, 3, 5, 5, 1, 1, 2, 1, 1, 1, 2, 1, 1, 5, 0,
                0, -1, 0, 0, 1, 1, 1,
                11, 0, 1, 1, 0, 1, 0,
                1, 5, 3, 1, 1, 2, 1, 2, 4, 1, 3, 3,
                0, 2, 1,
                0, 1,
                123);
        Check.same("by hand", x.digest(), due);
    }

    private static void digestAnswer() {
        says(28, "Returns the hash.");
        MasterPins x = Systems.full();
        for (int key = 0; key < 16; key++) {
            x.lose(key);
            Check.same("with " + (key + 1) + " lost keys", x.digest(), hashByCalls(x, 4));
        }
        for (int left = 3; left >= 0; left--) {
            x.undo();
            Check.same("with " + left + " states", x.digest(), hashByCalls(x, left));
        }
    }
}
