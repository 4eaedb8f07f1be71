/** Promises 24 to 28: command text, undo and checksum. */
final class CommandsTest {
    private CommandsTest() {
    }

    public static void main(String[] args) {
        type();
        clearCommands();
        runsEveryWord();
        runsUntilRefused();
        runSavesOneState();
        textsWithoutFault();
        faultsOfWords();
        faultsOfNumbers();
        faultsOfEnds();
        undo();
        undoLimit();
        undoLeavesTheText();
        whatIsUndoable();
        digestOfNewObject();
        digestOfAll();
        Check.finish("CommandsTest");
    }

    private static void type() {
        MasterPins x = new MasterPins();
        Check.same("24: first byte", x.type(0), 1);
        Check.same("24: second byte", x.type(127), 2);
        Check.refused("24: 128", x, Check.ARGUMENT, () -> x.type(128));
        Check.refused("24: -1", x, Check.ARGUMENT, () -> x.type(-1));
        Check.same("24: whole", x.whole(13), 2);
        Check.refused("24: not undoable", x, Check.STATE, x::undo);
        for (int length = 3; length <= 150; length++) {
            Check.same("24: length", x.type(' '), length);
        }
        Check.refused("24: full", x, Check.STATE, () -> x.type(' '));
        Check.refused("24: value before length", x, Check.ARGUMENT, () -> x.type(128));
    }

    private static void clearCommands() {
        MasterPins x = new MasterPins();
        Check.same("25: empty", x.clearCommands(), 0);
        x.type('a');
        x.type('b');
        Check.same("25: two bytes", x.clearCommands(), 2);
        Check.same("25: empty then", x.whole(13), 0);
        Check.same("25: typed anew", x.type('c'), 1);
        Check.refused("25: not undoable", x, Check.STATE, x::undo);
        Check.typed(x, " ".repeat(150));
        Check.same("25: full", x.clearCommands(), 150);
    }

    private static void runIs(MasterPins x, String text, int due) {
        Check.typed(x, text);
        Check.same("26: run of \"" + text + "\"", x.runCommands(), due);
        Check.same("26: the text stays", x.whole(13), text.length());
    }

    private static void runsEveryWord() {
        MasterPins x = new MasterPins();
        runIs(x, "master 123;key 143 0;door 1;pin 0 0;cut 1 44;", 5);
        Check.same("26: master", x.key(0, 0), 123);
        Check.same("26: master of a master", x.key(0, 1), -1);
        Check.same("26: key", x.key(1, 1), 0);
        Check.same("26: cut", x.key(1, 0), 44);
        Check.same("26: door", x.door(0, 0), 1);
        Check.same("26: the cylinder stays", x.pins(0, 1), 1 << 2 | 1 << 4);
        runIs(x, "lose 0;", 1);
        Check.same("26: lose", x.whole(7), 1);
        runIs(x, "fit 0;rule 2 3;", 2);
        Check.same("26: fit", x.door(0, 1), 3);
        Check.same("26: rule", x.whole(4), 3);
        runIs(x, "find 0;all;", 2);
        Check.same("26: find", x.whole(7), 0);
        Check.same("26: all", x.door(0, 1), 6);
        runIs(x, "door 0;pin 1 1;", 2);
        Check.same("26: pin", x.door(1, 1), 6);
        x.runCommands();
        Check.same("26: a text runs again", x.whole(6), 3);
    }

    private static void runsUntilRefused() {
        MasterPins x = new MasterPins();
        runIs(x, "master 123;master 123;master 222;", 1);
        Check.same("26: those before stay done", x.whole(5), 1);
        runIs(x, "master 9999;", 0);
        runIs(x, "key 222 1;", 0);
        runIs(x, "key 222 0;door 2;", 1);
        runIs(x, "pin 0 0;", 0);
        runIs(x, "door 0;pin 0 2;", 1);
        runIs(x, "fit 1;", 0);
        runIs(x, "find 0;", 0);
        runIs(x, "lose 0;lose 0;", 1);
        runIs(x, "lose 2;", 0);
        runIs(x, "find 0;find 0;", 1);
        runIs(x, "cut 0 222;", 0);
        runIs(x, "cut 2 0;", 0);
        runIs(x, "rule 3 1;", 0);
        runIs(x, "rule 0 6;", 0);
        runIs(x, "rule 1 0;", 0);
        runIs(x, "rule 9999 9999;", 0);
        runIs(x, "all;all;", 2);
        Check.same("26: keys", x.whole(5), 2);
        Check.same("26: doors", x.whole(6), 1);
    }

    private static void runSavesOneState() {
        MasterPins x = new MasterPins();
        runIs(x, "master 123;key 143 0;door 1;", 3);
        Check.same("26: one state", x.undo(), 0);
        Check.same("26: the one from before", x.whole(5), 0);
        runIs(x, "", 0);
        Check.same("26: the empty text saves one", x.undo(), 0);
        runIs(x, "find 0;", 0);
        Check.same("26: a refused command too", x.undo(), 0);
        runIs(x, "master 123;fit", -10 - 14);
        Check.same("26: with a fault nothing is done", x.whole(5), 0);
        Check.refused("26: and nothing is saved", x, Check.STATE, x::undo);
    }

    private static void textsWithoutFault() {
        MasterPins x = new MasterPins();
        runIs(x, "", 0);
        runIs(x, "   ", 0);
        runIs(x, "master 0;", 1);
        runIs(x, "  all  ;  all;  ", 2);
        runIs(x, "master   0011   ;", 1);
        runIs(x, "key  0022  0001 ;", 1);
        runIs(x, "fit 9999;", 0);
        runIs(x, "all;".repeat(37), 37);
        runIs(x, "all;".repeat(37) + "  ", 37);
    }

    private static void faultIs(String text, int fault) {
        MasterPins x = new MasterPins();
        x.addKey(0, -1);
        x.addDoor(0);
        runIs(x, text, -10 - fault);
    }

    private static void faultsOfWords() {
        faultIs("x", 0);
        faultIs("  x", 2);
        faultIs("all;mast", 4);
        faultIs("all;masters 1;", 4);
        faultIs("all; alls;", 5);
        faultIs("mas;", 0);
        faultIs("All;", 0);
        faultIs("aLL;", 0);
        faultIs("allX;", 3);
        faultIs("fitX;", 3);
        faultIs(";", 0);
        faultIs(" ;", 1);
        faultIs("all;;", 4);
        faultIs("7;", 0);
        faultIs("a".repeat(150), 0);
        faultIs("al", 0);
        faultIs("fi t 0;", 0);
        faultIs("all;" + (char) 0, 4);
        faultIs("all\t;", 3);
        faultIs("begin 3 3;", 0);
        faultIs("allfit 0;", 0);
        faultIs("{", 0);
        faultIs("`", 0);
        faultIs("bll;", 0);
        faultIs("alz;", 0);
        faultIs("allz;", 0);
        faultIs("all;zit 0;", 4);
    }

    private static void faultsOfNumbers() {
        faultIs("all 1;", 4);
        faultIs("all1;", 3);
        faultIs("fit0;", 3);
        faultIs("fit;", 3);
        faultIs("fit ;", 4);
        faultIs("fit a;", 4);
        faultIs("fit -1;", 4);
        faultIs("fit 0 0;", 6);
        faultIs("fit 0a;", 5);
        faultIs("fit 00000;", 8);
        faultIs("fit 12345;", 8);
        faultIs("pin 0;", 5);
        faultIs("pin 0 ;", 6);
        faultIs("pin 00000 0;", 8);
        faultIs("pin 0 00000;", 10);
        faultIs("pin 0 0 0;", 8);
        faultIs("pin 0,0;", 5);
        faultIs("pin 0:0;", 5);
        faultIs("pin 0/0;", 5);
        faultIs("pin 0 0a;", 7);
    }

    private static void faultsOfEnds() {
        faultIs("all", 3);
        faultIs("all ", 4);
        faultIs("fit", 3);
        faultIs("fit ", 4);
        faultIs("fit 0", 5);
        faultIs("fit 0000", 8);
        faultIs("fit 0 ", 6);
        faultIs("pin 0", 5);
        faultIs("pin 0 ", 6);
        faultIs("pin 0 0", 7);
        faultIs("all;fit 0", 9);
        faultIs(" ".repeat(147) + "all", 150);
    }

    private static void undo() {
        MasterPins x = new MasterPins();
        x.addKey(123, -1);
        x.addDoor(0);
        x.lose(0);
        Check.same("27: two are left", x.undo(), 2);
        Check.same("27: not lost", x.key(0, 2), 0);
        Check.same("27: one is left", x.undo(), 1);
        Check.same("27: no doors", x.whole(6), 0);
        x.addDoor(0);
        Check.same("27: a new branch", x.undo(), 1);
        Check.same("27: none is left", x.undo(), 0);
        Check.same("27: no keys", x.whole(5), 0);
        Check.refused("27: empty", x, Check.STATE, x::undo);
    }

    private static void undoLimit() {
        MasterPins x = new MasterPins();
        for (int value = 0; value <= 5; value++) {
            x.setRule(0, value);
        }
        int[] due = {4, 3, 2, 1};
        for (int place = 0; place < due.length; place++) {
            Check.same("27: states that are left", x.undo(), 3 - place);
            Check.same("27: the value from before", x.whole(2), due[place]);
        }
        Check.refused("27: older ones are dropped", x, Check.STATE, x::undo);
    }

    private static void undoLeavesTheText() {
        MasterPins x = new MasterPins();
        Check.typed(x, "all;");
        x.addKey(0, -1);
        x.type(' ');
        x.undo();
        Check.same("27: the text stays", x.whole(13), 5);
        x.addKey(0, -1);
        x.clearCommands();
        x.undo();
        Check.same("27: the empty text stays", x.whole(13), 0);
    }

    private static void whatIsUndoable() {
        MasterPins x = new MasterPins();
        Check.typed(x, "all;");
        Check.Call[] calls = {() -> x.setRule(0, 5), () -> x.addKey(123, -1), () -> x.recut(0, 123),
            () -> x.lose(0), () -> x.find(0), () -> x.addDoor(0), () -> x.pin(0, 0), () -> x.fit(0),
            x::fitAll, () -> x.setOwner(0, 0), x::runCommands, () -> x.begin(3, 5)};
        for (int call = 0; call < calls.length; call++) {
            long before = x.digest();
            calls[call].answer();
            long after = x.digest();
            Check.same("27: states after call " + call, x.undo(), Math.min(call, 3));
            if (call < 4) {
                Check.same("27: undo of call " + call, x.digest(), before);
            }
            calls[call].answer();
            Check.same("27: call " + call + " again", x.digest(), after);
        }
    }

    private static long hashOf(long... values) {
        long hash = 43378;
        for (long value : values) {
            hash = 31 * hash + value;
        }
        return hash;
    }

    private static void digestOfNewObject() {
        MasterPins x = new MasterPins();
        long due = hashOf(0, 3, 5, 5, 1, 1, 0, 0, 0, 0, 0, 0, 0, 0, 0, 125);
        Check.same("28: new object", x.digest(), due);
        Check.same("28: again", x.digest(), due);
        x.type(' ');
        due = hashOf(0, 3, 5, 5, 1, 1, 0, 0, 0, 0, 0, 0, 0, 0, 1, 125);
        Check.same("28: with a byte", x.digest(), due);
    }

    private static void digestOfAll() {
        MasterPins x = new MasterPins();
        x.addKey(123, -1);
        x.addKey(122, 0);
        x.addDoor(1);
        x.lose(0);
        // Door 0 has the pins 1, 2, 2 and 3; both keys open it, and key 1 alone is right.
        long due = hashOf(4, 3, 5, 5, 1, 1, 2, 1, 1, 1, 0, 1, 1, 4, 0,
                123, -1, 1, 0, 1, 1, 0,
                122, 0, 0, 1, 0, 1, 1,
                1, 4, 3, 2, 1, 0, 1, 1, 2, 1 << 1, 1 << 2, 1 << 2 | 1 << 3,
                0, 1, 1,
                1, 0,
                123);
        Check.same("28: with all parts", x.digest(), due);
    }
}
