/** The edges that the document's terms of texts of commands, undo and exceptions name. */
final class EdgesOfTexts {
    private static final int NONE = MasterPins.NONE;
    private static final String TEXTS = "TEXTS OF COMMANDS";
    private static final String UNDO = "UNDO";
    private static final String EXCEPTIONS = "EXCEPTIONS";
    private static final String ALLS = "all;".repeat(37);

    private EdgesOfTexts() {
    }

    static void run() {
        mostBytes();
        noCommands();
        sequence();
        lettersOfWords();
        digitsOfNumbers();
        spacesBeforeNumbers();
        semicolon();
        spacesElsewhere();
        words();
        numbersOfWords();
        firstByteThatCannotStand();
        endsTooSoon();
        unknownWord();
        outOfRangeIsNoFault();
        withFaultNothingIsDone();
        untilAnException();
        exceptionsOfCommands();
        oneState();
        savesTheWholeState();
        savesWithoutChange();
        savesTheStateBefore();
        keepsFour();
        refusedChangesNothing();
        firstListedException();
        noneOnlyWithoutException();
    }

    /** Runs a text on a new object without keys. */
    private static long ran(String text) {
        MasterPins x = new MasterPins();
        Check.typed(x, text);
        return x.runCommands();
    }

    private static void faultIs(String text, int fault) {
        Check.same("run of '" + text + "'", ran(text), -10 - fault);
    }

    private static void runIs(String text, int commands) {
        Check.same("run of '" + text + "'", ran(text), commands);
    }

    // ---- texts

    private static void mostBytes() {
        Check.sentence(TEXTS, "The command text has at most 150 bytes.");
        MasterPins x = new MasterPins();
        Check.typed(x, ALLS + " ");
        Check.same("149 bytes", x.whole(13), 149);
        Check.same("the last byte", x.type(' '), 150);
        Check.same("150 bytes", x.whole(13), 150);
        Check.refused("one byte more", () -> {
            MasterPins y = Systems.rich();
            Check.typed(y, ALLS + "  ");
            return y;
        }, Check.STATE, y -> y.type(' '));
        runIs(ALLS + "  ", 37);
        runIs(" ".repeat(146) + "all;", 1);
        runIs(" ".repeat(150), 0);
        faultIs(ALLS + " ;", 149);
        faultIs(ALLS + "fi", 148);
        faultIs(" ".repeat(147) + "fit", 150);
        faultIs(" ".repeat(145) + "fit 0", 150);
        faultIs("x".repeat(150), 0);
    }

    private static void noCommands() {
        Check.sentence(TEXTS, "It is a sequence of commands (perhaps none: a text that is empty, or has spaces alone, has no fault)");
        runIs("", 0);
        runIs(" ", 0);
        runIs("     ", 0);
        runIs(" ".repeat(150), 0);
        faultIs(";", 0);
        faultIs("  ;", 2);
    }

    private static void sequence() {
        Check.sentence(TEXTS, "It is a sequence of commands");
        runIs("all;", 1);
        runIs("all;all;", 2);
        runIs("master 0;door 0;master 1;fit 0;", 4);
        runIs(ALLS, 37);
        faultIs("all,all;", 3);
        faultIs("all;;all;", 4);
        faultIs("all all;", 4);
    }

    private static void lettersOfWords() {
        Check.sentence(TEXTS, "each of which is a word of letters a to z");
        faultIs("`ll;", 0);
        faultIs("{ll;", 0);
        faultIs("all;`", 4);
        faultIs("all`;", 3);
        faultIs("all{;", 3);
        faultIs("ALL;", 0);
        faultIs("All;", 0);
        faultIs("allA;", 3);
        faultIs("allZ;", 3);
        faultIs("alla;", 0);
        faultIs("allz;", 0);
        faultIs("aaa;", 0);
        faultIs("zzz;", 0);
        faultIs("0;", 0);
        faultIs((char) 0 + "all;", 0);
        faultIs((char) 127 + "all;", 0);
        faultIs("all" + (char) 127 + ";", 3);
    }

    private static void digitsOfNumbers() {
        Check.sentence(TEXTS, "followed by its numbers, each of one to four digits (zeros in front are allowed; a fifth digit cannot stand)");
        runIs("master 0;", 1);
        runIs("master 44;", 1);
        runIs("master 444;", 1);
        runIs("master 0444;", 1);
        runIs("master 0000;", 1);
        runIs("master 0044;key 0043 0000;", 2);
        runIs("fit 9999;", 0);
        faultIs("master ;", 7);
        faultIs("master 00444;", 11);
        faultIs("master 44400;", 11);
        faultIs("master 00000", 11);
        faultIs("key 00000 0;", 8);
        faultIs("key 0 00000;", 10);
        faultIs("fit 0/;", 5);
        faultIs("fit 0:;", 5);
        faultIs("fit /;", 4);
        faultIs("fit :;", 4);
        faultIs("fit -1;", 4);
        faultIs("fit +1;", 4);
        faultIs("fit a;", 4);
        MasterPins x = Systems.of(4, 6);
        Check.typed(x, "master 5432;master 0012;");
        Check.same("four digits", x.runCommands(), 2);
        Check.same("number of four digits", x.key(0, 0), 5432);
        Check.same("zeros in front", x.key(1, 0), 12);
    }

    private static void spacesBeforeNumbers() {
        Check.sentence(TEXTS, "and with at least one space (byte 32) in front");
        faultIs("master0;", 6);
        runIs("master 0;", 1);
        runIs("master          0;", 1);
        runIs("master 0;key 1 0;", 2);
        runIs("master 0;key 1     0;", 2);
        faultIs("key 1;", 5);
        faultIs("key 1,0;", 5);
        for (int value = 0; value < 128; value++) {
            Check.same("byte " + value + " in front", ran("master" + (char) value + "0;"),
                    value == ' ' ? 1 : value >= 'a' && value <= 'z' ? -10 : -16);
        }
    }

    private static void semicolon() {
        Check.sentence(TEXTS, "and a semicolon");
        for (int value = 0; value < 128; value++) {
            boolean isLetter = value >= 'a' && value <= 'z';
            boolean isDigit = value >= '0' && value <= '9';
            Check.same("byte " + value + " behind a word", ran("all" + (char) value),
                    value == ';' ? 1 : isLetter ? -10 : value == ' ' ? -14 : -13);
            Check.same("byte " + value + " behind a number", ran("master 0" + (char) value),
                    value == ';' ? 1 : isDigit || value == ' ' ? -19 : -18);
        }
    }

    private static void spacesElsewhere() {
        Check.sentence(TEXTS, "Spaces may also stand in front of a command, in front of a semicolon, and at the end.");
        runIs(" all;", 1);
        runIs("   all;   all;", 2);
        runIs("all ;", 1);
        runIs("all   ;", 1);
        runIs("master 0   ;", 1);
        runIs("all; ", 1);
        runIs("all;    ", 1);
        runIs("  master   0  ;  key   1   0  ;  ", 2);
        faultIs("a ll;", 0);
        faultIs("fi t 0;", 0);
        faultIs("master 0 0;", 9);
        faultIs("\tall;", 0);
        faultIs("all\t;", 3);
        faultIs("all;\t", 4);
        faultIs("all;\n", 4);
    }

    // ---- words

    private static void words() {
        word("master c (addKey(c, NONE))", "master 333;", x -> x.addKey(333, NONE));
        word("key c m (addKey(c, m))", "key 333 1;", x -> x.addKey(333, 1));
        word("door k (addDoor(k))", "door 1;", x -> x.addDoor(1));
        word("pin d k (pin(d, k))", "pin 1 0;", x -> x.pin(1, 0));
        word("pin d k (pin(d, k))", "pin 0 2;", x -> x.pin(0, 2));
        word("fit d (fit(d))", "fit 1;", x -> x.fit(1));
        word("lose k (lose(k))", "lose 1;", x -> x.lose(1));
        word("find k (find(k))", "find 2;", x -> x.find(2));
        word("cut k c (recut(k, c))", "cut 1 222;", x -> x.recut(1, 222));
        word("rule r v (setRule(r, v))", "rule 2 3;", x -> x.setRule(2, 3));
        word("rule r v (setRule(r, v))", "rule 0 0;", x -> x.setRule(0, 0));
        word("all (fitAll())", "all;", MasterPins::fitAll);
        numbersInOrder();
    }

    private static void numbersInOrder() {
        Check.sentence(TEXTS, "pin d k (pin(d, k))");
        MasterPins x = Systems.withKeys(3, 5, 0, 111, 222);
        x.addDoor(0);
        x.addDoor(0);
        Check.typed(x, "pin 1 2;pin 0 1;");
        Check.same("run", x.runCommands(), 2);
        Check.same("door 0 has the cuts of key 1", x.pins(0, 0), 1 | 1 << 1);
        Check.same("door 1 has the cuts of key 2", x.pins(1, 0), 1 | 1 << 2);
    }

    private static void word(String words, String text, Check.Act act) {
        Check.sentence(TEXTS, words);
        MasterPins x = Systems.some();
        Check.typed(x, text);
        Check.same("run of " + text, x.runCommands(), 1);
        MasterPins y = Systems.some();
        Check.typed(y, text);
        act.on(y);
        Check.sameState("as the call", x, y);
    }

    private static void numbersOfWords() {
        Check.sentence(TEXTS, "The words are: master c (addKey(c, NONE)), key c m (addKey(c, m)), door k (addDoor(k)), "
                + "pin d k (pin(d, k)), fit d (fit(d)), lose k (lose(k)), find k (find(k)), cut k c (recut(k, c)), "
                + "rule r v (setRule(r, v)), all (fitAll()).");
        String[] withOne = {"master", "door", "fit", "lose", "find"};
        String[] withTwo = {"key", "pin", "cut", "rule"};
        for (String word : withOne) {
            int length = word.length();
            faultIs(word + ";", length);
            faultIs(word + " ;", length + 1);
            faultIs(word + " 99 9;", length + 4);
            faultIs(word + " 9x;", length + 2);
            Check.isTrue(word + " with a number", ran(word + " 1;") >= 0);
        }
        for (String word : withTwo) {
            int length = word.length();
            faultIs(word + ";", length);
            faultIs(word + " 9;", length + 2);
            faultIs(word + " 9 ;", length + 3);
            faultIs(word + " 99 9 9;", length + 6);
            Check.isTrue(word + " with two numbers", ran(word + " 1 1;") >= 0);
        }
        faultIs("all 9;", 4);
        faultIs("all9;", 3);
    }

    // ---- faults

    private static void firstByteThatCannotStand() {
        Check.sentence(TEXTS, "The fault of a command text is the index of the first byte that cannot stand at its place");
        faultIs(",", 0);
        faultIs("all;,", 4);
        faultIs("all;all,;", 7);
        faultIs("all,;fit,", 3);
        faultIs("key 1 1x;y;", 7);
        faultIs("master 1;lose 1?", 15);
        faultIs(ALLS + ",", 148);
    }

    private static void endsTooSoon() {
        Check.sentence(TEXTS, "or the length of the text if it ends too soon");
        String whole = " key  333  0002 ";
        int wordEnd = 4;
        for (int length = wordEnd; length <= whole.length(); length++) {
            faultIs(whole.substring(0, length), length);
        }
        runIs(whole + ";", 0);
        faultIs("all", 3);
        faultIs("all ", 4);
        faultIs("all;all", 7);
        faultIs("fit", 3);
        faultIs("fit 1234", 8);
    }

    private static void unknownWord() {
        Check.sentence(TEXTS, "A word that is not one of these is at fault with its first byte, found when the word is complete: "
                + "when a byte that is no letter, or the end of the text, follows it.");
        String[] unknown = {"a", "al", "alll", "mast", "masters", "keys", "ke", "doo", "doors", "pins", "fits", "lost",
            "loses", "fin", "finds", "cuts", "rules", "begin", "undo", "addkey", "allall", "fitall", "z"};
        String[] behind = {"", " ", ";", " 1;", "1;", "A", ",", "\t", "" + (char) 0, "" + (char) 127};
        for (String word : unknown) {
            for (String follows : behind) {
                faultIs(word + follows, 0);
                faultIs("all; " + word + follows, 5);
            }
        }
        faultIs("all;;x", 4);
        faultIs("x;,", 0);
    }

    private static void outOfRangeIsNoFault() {
        Check.sentence(TEXTS, "(That a number is out of its range is no fault.)");
        String[] texts = {"master 9999;", "master 555;", "key 0 9999;", "door 9999;", "pin 9999 9999;", "fit 12;",
            "lose 16;", "find 16;", "cut 16 0;", "rule 3 1;", "rule 0 6;", "rule 1 0;", "rule 9999 9999;"};
        for (String text : texts) {
            runIs(text, 0);
            runIs("all;" + text + "all;", 1);
        }
    }

    // ---- runs

    private static MasterPins withText(String text) {
        MasterPins x = Systems.rich();
        Check.typed(x, text);
        return x;
    }

    private static void withFaultNothingIsDone() {
        Check.sentence(TEXTS, "To run a command text means: if it has a fault, nothing is done");
        String[] texts = {"find 2;master 333;all", "find 2;,", "all;all;x;", "lose 0;fit 0;cut 0 1 ;;", ",find 2;"};
        int[] faults = {21, 7, 8, 22, 0};
        for (int text = 0; text < texts.length; text++) {
            String typed = texts[text];
            Check.same("run of " + typed, withText(typed).runCommands(), -10 - faults[text]);
            Check.changesNothing("run of " + typed, () -> withText(typed), MasterPins::runCommands);
        }
    }

    private static void untilAnException() {
        Check.sentence(TEXTS, "otherwise the commands are carried out in their order, until one of them would throw an exception, "
                + "which is not thrown; those before it stay done, and they alone count.");
        MasterPins x = Systems.some();
        Check.typed(x, "find 2;find 2;lose 0;lose 1;");
        Check.same("the second one is refused", x.runCommands(), 1);
        Check.same("the first one stays done, the others are not done", x.whole(7), 0);
        x = Systems.some();
        Check.typed(x, "lose 3;lose 0;");
        Check.same("the first one is refused", x.runCommands(), 0);
        Check.same("nothing is done behind it", x.whole(7), 1);
        x = Systems.some();
        Check.typed(x, "lose 0;lose 1;find 1;fit 9;");
        Check.same("the last one is refused", x.runCommands(), 3);
        Check.same("all before it stay done", x.whole(7), 2);
        x = new MasterPins();
        Check.typed(x, "master 0;key 1 0;door 1;rule 2 3;cut 1 2;");
        Check.same("in their order", x.runCommands(), 4);
        x = new MasterPins();
        Check.typed(x, "door 0;master 0;");
        Check.same("a door ahead of its key", x.runCommands(), 0);
        x = new MasterPins();
        Check.typed(x, "master 0;door 0;");
        Check.same("a key ahead of its door", x.runCommands(), 2);
    }

    private static void exceptionsOfCommands() {
        Check.sentence(TEXTS, "until one of them would throw an exception");
        String[] refused = {"master 500;", "master 123;", "key 333 3;", "key 123 0;", "door 3;", "pin 2 0;", "pin 0 3;",
            "fit 2;", "lose 3;", "lose 2;", "find 3;", "find 0;", "cut 3 0;", "cut 0 144;", "cut 0 50;", "rule 3 1;",
            "rule 0 6;", "rule 1 0;", "rule 1 5;", "rule 2 0;", "rule 2 5;"};
        for (String text : refused) {
            MasterPins x = withText("rule 1 2;" + text + "all;");
            Check.same(text + " ends the run", x.runCommands(), 1);
            MasterPins y = withText("rule 1 2;" + text + "all;");
            y.setRule(1, 2);
            Check.sameState(text + " is not done", x, y);
        }
        MasterPins full = Systems.full();
        Check.typed(full, "all;master 555;");
        Check.same("the 17th key", full.runCommands(), 1);
        Check.typed(full, "all;all;door 0;");
        Check.same("the 13th door", full.runCommands(), 2);
    }

    private static void oneState() {
        Check.sentence(TEXTS, "A run saves one state, the one from before it; its commands save none.");
        String[] texts = {"", "  ", "all;", "find 2;lose 0;lose 1;cut 0 333;door 0;fit 0;all;rule 2 2;", "fit 9;", "find 2;find 2;"};
        for (String text : texts) {
            MasterPins x = Systems.some();
            Check.typed(x, text);
            x.runCommands();
            Check.same("states that are left behind a run of '" + text + "'", x.undo(), 3);
            MasterPins y = Systems.some();
            Check.typed(y, text);
            Check.sameState("the state from before", x, y);
        }
        MasterPins full = withText("find 2;lose 0;");
        full.runCommands();
        Check.same("on a full stack", full.undo(), 3);
        Check.same("the state from before", full.whole(7), 1);
        MasterPins none = new MasterPins();
        Check.typed(none, "master 0;master 1;door 0;door 1;all;");
        Check.same("five commands", none.runCommands(), 5);
        Check.same("one state", none.undo(), 0);
        Check.same("before all of them", none.whole(5), 0);
    }

    // ---- undo

    /** As Systems.rich(), ahead of the loss, with one saved state. */
    private static MasterPins early() {
        MasterPins x = Systems.rich();
        for (int undone = 0; undone < 3; undone++) {
            x.undo();
        }
        return x;
    }

    private static void savesTheWholeState() {
        Check.sentence(UNDO, "Every method that is marked \"undoable\" saves the whole state but the command text on an undo stack when it ends normally");
        Check.undoable("begin: chambers, depths, keys and doors", Systems::some, x -> x.begin(2, 2));
        for (int rule = 0; rule <= 2; rule++) {
            int turned = rule;
            Check.undoable("rule " + rule, Systems::some, x -> x.setRule(turned, 2));
        }
        Check.undoable("a key", Systems::some, x -> x.addKey(333, 2));
        Check.undoable("a code", Systems::some, x -> x.recut(1, 333));
        Check.undoable("a loss", Systems::some, x -> x.lose(1));
        Check.undoable("a finding", Systems::some, x -> x.find(2));
        Check.undoable("a door", Systems::some, x -> x.addDoor(2));
        Check.undoable("pins", Systems::some, x -> x.pin(1, 0));
        Check.undoable("a fitting", Systems::some, x -> x.fit(1));
        Check.undoable("all fittings", Systems::some, MasterPins::fitAll);
        Check.undoable("an owner", Systems::some, x -> x.setOwner(0, 0));
        Check.undoable("a run", Systems::some, MasterPins::runCommands);
        Check.undoable("begin of 16 keys and 12 doors", Systems::nearlyFull, x -> x.begin(2, 2));
        Check.undoable("all doors of 16 keys", Systems::nearlyFull, x -> {
            Check.typed(x, "lose 0;lose 15;rule 0 0;rule 1 4;rule 2 4;find 15;all;cut 9 1234;");
            x.runCommands();
            Check.typed(x, "");
            return 0;
        });
        MasterPins again = early();
        again.begin(3, 5);
        again.addKey(0, NONE);
        again.addKey(1, NONE);
        again.undo();
        again.undo();
        again.undo();
        Check.sameState("keys of another system leave no masters behind", again, early());
        MasterPins x = Systems.some();
        x.lose(0);
        x.type(';');
        int length = x.whole(13);
        x.undo();
        Check.same("the command text stays as it is", x.whole(13), length);
        x.lose(0);
        x.clearCommands();
        x.undo();
        Check.same("also if it is empty", x.whole(13), 0);
    }

    private static void savesWithoutChange() {
        Check.sentence(UNDO, "also if it changes nothing");
        Check.undoable("the same rule", Systems::some, x -> x.setRule(0, 5));
        Check.undoable("the same code", Systems::some, x -> x.recut(0, 123));
        Check.undoable("the same pins", Systems::some, x -> x.pin(1, 2));
        Check.undoable("the same owner", Systems::some, x -> x.setOwner(1, 1));
        Check.undoable("a fitted door", Systems::nearlyFull, x -> x.fit(0));
        Check.undoable("fitted doors", Systems::nearlyFull, MasterPins::fitAll);
        Check.undoable("no doors", MasterPins::new, MasterPins::fitAll);
        Check.undoable("the same system", MasterPins::new, x -> x.begin(3, 5));
        Check.undoable("an empty text", MasterPins::new, MasterPins::runCommands);
    }

    private static void savesTheStateBefore() {
        Check.sentence(UNDO, "The saved state is the one from before the call.");
        MasterPins x = new MasterPins();
        x.addKey(123, NONE);
        x.recut(0, 234);
        x.recut(0, 344);
        x.undo();
        Check.same("before the last one", x.key(0, 0), 234);
        x.undo();
        Check.same("before the one before", x.key(0, 0), 123);
        x.undo();
        Check.same("before the first one", x.whole(5), 0);
    }

    private static MasterPins changed(int changes) {
        MasterPins x = new MasterPins();
        for (int change = 1; change <= changes; change++) {
            x.setRule(0, change % 6);
        }
        return x;
    }

    private static void keepsFour() {
        Check.sentence(UNDO, "The stack keeps the latest 4 saved states and drops older ones.");
        for (int changes = 0; changes <= 12; changes++) {
            MasterPins x = changed(changes);
            int kept = Math.min(4, changes);
            for (int undone = 1; undone <= kept; undone++) {
                Check.same("states that are left of " + changes, x.undo(), kept - undone);
                int due = changes == undone ? 5 : (changes - undone) % 6;
                Check.same("the latest ones of " + changes, x.whole(2), due);
            }
            Check.thrown("older ones of " + changes, Check.STATE, x::undo);
        }
        MasterPins again = changed(6);
        for (int undone = 0; undone < 4; undone++) {
            again.undo();
        }
        again.setRule(0, 0);
        Check.same("used again", again.undo(), 0);
        Check.same("the state from before", again.whole(2), 2);
    }

    // ---- exceptions

    private static void refusedChangesNothing() {
        Check.sentence(EXCEPTIONS, "A call that throws an exception changes nothing.");
        Check.refused("begin", Systems::rich, Check.ARGUMENT, x -> x.begin(4, 7));
        Check.refused("setRule", Systems::rich, Check.ARGUMENT, x -> x.setRule(0, 6));
        Check.refused("addKey, no master", Systems::rich, Check.INDEX, x -> x.addKey(333, 3));
        Check.refused("addKey, no code", Systems::rich, Check.ARGUMENT, x -> x.addKey(500, 0));
        Check.refused("addKey, full", Systems::full, Check.STATE, x -> x.addKey(5432, 0));
        Check.refused("recut, no key", Systems::rich, Check.INDEX, x -> x.recut(3, 333));
        Check.refused("recut, no code", Systems::rich, Check.ARGUMENT, x -> x.recut(0, 500));
        Check.refused("lose, no key", Systems::rich, Check.INDEX, x -> x.lose(3));
        Check.refused("lose, lost", Systems::rich, Check.STATE, x -> x.lose(2));
        Check.refused("find, no key", Systems::rich, Check.INDEX, x -> x.find(3));
        Check.refused("find, not lost", Systems::rich, Check.STATE, x -> x.find(1));
        Check.refused("addDoor, no key", Systems::rich, Check.INDEX, x -> x.addDoor(3));
        Check.refused("addDoor, full", Systems::full, Check.STATE, x -> x.addDoor(0));
        Check.refused("pin, no door", Systems::rich, Check.INDEX, x -> x.pin(2, 0));
        Check.refused("pin, no key", Systems::rich, Check.INDEX, x -> x.pin(0, 3));
        Check.refused("fit", Systems::rich, Check.INDEX, x -> x.fit(2));
        Check.refused("setOwner, no door", Systems::rich, Check.INDEX, x -> x.setOwner(2, 0));
        Check.refused("setOwner, no key", Systems::rich, Check.INDEX, x -> x.setOwner(0, 3));
        Check.refused("key", Systems::rich, Check.ARGUMENT, x -> x.key(0, 7));
        Check.refused("door", Systems::rich, Check.ARGUMENT, x -> x.door(0, 9));
        Check.refused("pins", Systems::rich, Check.INDEX, x -> x.pins(0, 3));
        Check.refused("whole", Systems::rich, Check.ARGUMENT, x -> x.whole(14));
        Check.refused("work", Systems::rich, Check.ARGUMENT, x -> x.work(0, 3));
        Check.refused("byCode", Systems::rich, Check.ARGUMENT, x -> x.byCode(-1));
        Check.refused("reason", Systems::rich, Check.INDEX, x -> x.reason(3, 0));
        Check.refused("betterCode", Systems::rich, Check.INDEX, x -> x.betterCode(3));
        Check.refused("pinsIfTurned", Systems::rich, Check.INDEX, x -> x.pinsIfTurned(3));
        Check.refused("pinsIfCut", Systems::rich, Check.INDEX, x -> x.pinsIfCut(3, 0));
        Check.refused("type", Systems::rich, Check.ARGUMENT, x -> x.type(128));
        Check.refused("undo", MasterPins::new, Check.STATE, MasterPins::undo);
    }

    private static MasterPins fullText() {
        MasterPins x = Systems.rich();
        Check.typed(x, ALLS + "  ");
        return x;
    }

    private static void firstListedException() {
        Check.sentence(EXCEPTIONS, "If several exceptions of a method apply, the one that is listed first is thrown.");
        Check.refused("addKey: master, code, number", Systems::full, Check.INDEX, x -> x.addKey(-1, 16));
        Check.refused("addKey: master, code", Systems::rich, Check.INDEX, x -> x.addKey(-1, 3));
        Check.refused("addKey: master, number", Systems::full, Check.INDEX, x -> x.addKey(5432, 16));
        Check.refused("addKey: code, number", Systems::full, Check.ARGUMENT, x -> x.addKey(0, 15));
        Check.refused("recut: key, code", Systems::rich, Check.INDEX, x -> x.recut(3, -1));
        Check.refused("lose: no key of lost ones", Systems::allLost, Check.INDEX, x -> x.lose(16));
        Check.refused("find: no key", Systems::rich, Check.INDEX, x -> x.find(3));
        Check.refused("addDoor: owner, number", Systems::full, Check.INDEX, x -> x.addDoor(16));
        Check.refused("key: key, what", Systems::rich, Check.INDEX, x -> x.key(3, 7));
        Check.refused("door: door, what", Systems::rich, Check.INDEX, x -> x.door(2, 9));
        Check.refused("type: value, length", EdgesOfTexts::fullText, Check.ARGUMENT, x -> x.type(128));
        Check.refused("type: value, length", EdgesOfTexts::fullText, Check.ARGUMENT, x -> x.type(-1));
    }

    private static void noneOnlyWithoutException() {
        Check.sentence(EXCEPTIONS, "NONE is returned only if no exception applies.");
        Check.refused("work behind the last, no such value", Systems::rich, Check.ARGUMENT, x -> x.work(99, 3));
        Check.refused("work behind the last, no such value", Systems::rich, Check.ARGUMENT, x -> x.work(99, -1));
        Check.refused("work of an empty system", MasterPins::new, Check.ARGUMENT, x -> x.work(-1, 0));
        Check.refused("byCode of an empty system", MasterPins::new, Check.ARGUMENT, x -> x.byCode(-1));
        Check.refused("betterCode of no key", MasterPins::new, Check.INDEX, x -> x.betterCode(0));
        Check.refused("pinsIfCut of no key with no code", Systems::rich, Check.INDEX, x -> x.pinsIfCut(3, -1));
        Check.refused("pinsIfCut of NONE with no code", Systems::rich, Check.INDEX, x -> x.pinsIfCut(NONE, 500));
        Check.refused("key: the master of no key", Systems::rich, Check.INDEX, x -> x.key(NONE, 1));
    }
}
