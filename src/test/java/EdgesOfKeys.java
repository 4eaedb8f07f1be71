/** The edges of promises 1 to 7: a new object and the keys. */
final class EdgesOfKeys {
    private static final int NONE = MasterPins.NONE;
    private static final int[] BEYOND = {-1, 0, 1, 5, 6, 7, Integer.MIN_VALUE, Integer.MAX_VALUE};
    private static final int[] NO_CODES = {-1, 5, 50, 500, 555, 1000, 1123, Integer.MIN_VALUE, Integer.MAX_VALUE};

    private EdgesOfKeys() {
    }

    static void run() {
        newObject();
        beginWithoutKeysAndDoors();
        beginKeepsTheRules();
        beginUndoable();
        beginChambers();
        beginDepths();
        beginAnswer();
        beginRefused();
        setsARule();
        setRuleUndoable();
        setRuleNumbers();
        setRuleValues();
        setRuleAnswer();
        setRuleRefused();
        addsAKey();
        addKeyUndoable();
        addKeyCode();
        addKeyMaster();
        addKeyAnswer();
        addKeyNoMaster();
        addKeyNoCode();
        addKeyFull();
        cutsAnew();
        recutUndoable();
        recutKey();
        recutCode();
        recutAnswer();
        recutNoKey();
        recutNoCode();
        loses();
        loseUndoable();
        loseKey();
        loseAnswer();
        loseNoKey();
        loseLost();
        finds();
        findUndoable();
        findKey();
        findAnswer();
        findNoKey();
        findNotLost();
    }

    private static void says(int promise, String words) {
        Check.sentence("Promise " + promise, words);
    }

    // ---- promise 1

    private static void newObject() {
        says(1, "`MasterPins()`: Creates a system of 3 chambers and 5 depths without keys and doors, with the rules as at first, "
                + "an empty command text and an empty undo stack.");
        MasterPins x = new MasterPins();
        int[] due = {3, 5, 5, 1, 1, 0, 0, 0, 0, 0, 0, 0, 0, 0};
        for (int what = 0; what < due.length; what++) {
            Check.same("whole(" + what + ")", x.whole(what), due[what]);
        }
        Check.same("codes that are free", x.freeCodes(), 125);
        Check.same("no key in the order of codes", x.byCode(0), NONE);
        Check.same("no work", x.work(0, 0), NONE);
        Check.thrown("key 0", Check.INDEX, () -> x.key(0, 0));
        Check.thrown("door 0", Check.INDEX, () -> x.door(0, 0));
        Check.thrown("undo", Check.STATE, x::undo);
        Check.same("the empty text", x.clearCommands(), 0);
        new MasterPins().addKey(123, NONE);
        Check.same("another object has its own keys", new MasterPins().whole(5), 0);
    }

    // ---- promise 2

    private static void beginWithoutKeysAndDoors() {
        says(2, "Begins with another system, without keys and doors");
        int[][] sizes = {{2, 2}, {3, 5}, {4, 6}};
        for (int[] size : sizes) {
            MasterPins[] all = {new MasterPins(), Systems.rich(), Systems.full(), Systems.allLost()};
            for (MasterPins x : all) {
                x.begin(size[0], size[1]);
                Check.same("chambers", x.whole(0), size[0]);
                Check.same("depths", x.whole(1), size[1]);
                for (int what = 5; what <= 12; what++) {
                    Check.same("whole(" + what + ")", x.whole(what), 0);
                }
                Check.thrown("key 0", Check.INDEX, () -> x.key(0, 0));
                Check.thrown("door 0", Check.INDEX, () -> x.door(0, 0));
                Check.same("no key in the order of codes", x.byCode(0), NONE);
                Check.same("no work", x.work(0, 0), NONE);
            }
        }
        MasterPins x = Systems.allLost();
        x.begin(4, 6);
        Check.same("the first key again", x.addKey(0, NONE), 0);
        Check.same("which is not lost", x.key(0, 2), 0);
        Check.same("and has none below it", x.key(0, 4), 0);
        Check.same("the first door again", x.addDoor(0), 0);
        Check.same("with its own pins alone", x.door(0, 1), 4);
    }

    private static void beginKeepsTheRules() {
        says(2, "the rules stay");
        int[][] rules = {{0, 4, 4}, {5, 1, 1}, {3, 2, 3}};
        for (int[] rule : rules) {
            MasterPins x = Systems.withRules(3, 5, rule[0], rule[1], rule[2]);
            x.begin(4, 6);
            x.begin(2, 2);
            for (int number = 0; number <= 2; number++) {
                Check.same("rule " + number, x.whole(2 + number), rule[number]);
            }
        }
        Check.same("they bind the new keys", Systems.withRules(3, 5, 0, 2, 1).reason(NONE, 0), 3);
    }

    private static void beginUndoable() {
        says(2, "Undoable.");
        Check.undoable("begin", Systems::some, x -> x.begin(4, 6));
        Check.undoable("begin with the least", Systems::nearlyFull, x -> x.begin(2, 2));
        Check.undoable("begin with the same", MasterPins::new, x -> x.begin(3, 5));
    }

    private static void beginChambers() {
        says(2, "`chambers`: 2 to 4");
        for (int chambers = 2; chambers <= 4; chambers++) {
            MasterPins x = Systems.rich();
            Check.same("begin", x.begin(chambers, 6), 2);
            Check.same("chambers", x.whole(0), chambers);
        }
        for (int chambers : BEYOND) {
            Check.refused("begin with " + chambers, Systems::rich, Check.ARGUMENT, x -> x.begin(chambers, 5));
        }
    }

    private static void beginDepths() {
        says(2, "`depths`: 2 to 6");
        for (int depths = 2; depths <= 6; depths++) {
            MasterPins x = Systems.rich();
            Check.same("begin", x.begin(4, depths), 2);
            Check.same("depths", x.whole(1), depths);
        }
        for (int depths : new int[] {-1, 0, 1, 7, 8, Integer.MIN_VALUE, Integer.MAX_VALUE}) {
            Check.refused("begin with " + depths, Systems::rich, Check.ARGUMENT, x -> x.begin(3, depths));
        }
    }

    private static void beginAnswer() {
        says(2, "Returns the number of doors that there were.");
        MasterPins x = Systems.full();
        Check.same("12 doors", x.begin(2, 2), 12);
        Check.same("no doors then", x.begin(2, 2), 0);
        x.undo();
        x.undo();
        Check.same("12 doors again", x.begin(3, 3), 12);
        x.addKey(0, NONE);
        x.addDoor(0);
        Check.same("1 door", x.begin(3, 3), 1);
        Check.same("of a new object", new MasterPins().begin(2, 2), 0);
    }

    private static void beginRefused() {
        says(2, "Throws `IllegalArgumentException` if an argument is out of range");
        int[][] wrong = {{1, 5}, {5, 5}, {3, 1}, {3, 7}, {1, 1}, {5, 7}, {1, 7}, {5, 1}};
        for (int[] pair : wrong) {
            Check.refused("begin(" + pair[0] + ", " + pair[1] + ")", Systems::rich, Check.ARGUMENT,
                    x -> x.begin(pair[0], pair[1]));
        }
    }

    // ---- promise 3

    private static void setsARule() {
        says(3, "Sets a rule.");
        for (int rule = 0; rule <= 2; rule++) {
            MasterPins x = new MasterPins();
            x.setRule(rule, 3);
            int[] due = {5, 1, 1};
            due[rule] = 3;
            for (int number = 0; number <= 2; number++) {
                Check.same("rule " + number, x.whole(2 + number), due[number]);
            }
        }
    }

    private static void setRuleUndoable() {
        says(3, "Undoable.");
        for (int number = 0; number <= 2; number++) {
            int rule = number;
            Check.undoable("rule " + rule, Systems::some, x -> x.setRule(rule, 4));
            Check.undoable("rule " + rule + ", the same value", Systems::some, x -> x.setRule(rule, rule == 0 ? 5 : 1));
        }
    }

    private static void setRuleNumbers() {
        says(3, "`rule`: 0 greatest step, 1 least variety, 2 least difference");
        MasterPins x = Systems.withKeys(3, 5, 0);
        x.setRule(0, 1);
        Check.same("greatest step", x.reason(NONE, 2), 2);
        x.setRule(0, 5);
        x.setRule(1, 2);
        Check.same("least variety", x.reason(NONE, 222), 3);
        x.setRule(1, 1);
        x.setRule(2, 2);
        Check.same("least difference", x.reason(NONE, 2), 4);
        int[] noRules = {-1, 3, 4, Integer.MIN_VALUE, Integer.MAX_VALUE};
        Check.refusedFor("rule", noRules, Systems::rich, Check.ARGUMENT, (y, rule) -> y.setRule(rule, 1));
    }

    private static void setRuleValues() {
        says(3, "`value`: the new value, in its range");
        int[] least = {0, 1, 1};
        int[] most = {5, 4, 4};
        for (int number = 0; number <= 2; number++) {
            int rule = number;
            MasterPins x = new MasterPins();
            for (int value = least[rule]; value <= most[rule]; value++) {
                x.setRule(rule, value);
                Check.same("rule " + rule, x.whole(2 + rule), value);
            }
            int[] beyond = {least[rule] - 1, most[rule] + 1, Integer.MIN_VALUE, Integer.MAX_VALUE};
            Check.refusedFor("rule " + rule, beyond, Systems::rich, Check.ARGUMENT, (y, value) -> y.setRule(rule, value));
        }
    }

    private static void setRuleAnswer() {
        says(3, "Returns the previous value.");
        MasterPins x = new MasterPins();
        Check.same("rule 0 at first", x.setRule(0, 0), 5);
        Check.same("rule 0 of 0", x.setRule(0, 5), 0);
        Check.same("rule 1 at first", x.setRule(1, 4), 1);
        Check.same("rule 1 of 4", x.setRule(1, 4), 4);
        Check.same("rule 2 at first", x.setRule(2, 2), 1);
        x.undo();
        Check.same("rule 2 after undo", x.setRule(2, 3), 1);
        Check.same("rule 2 of 3", x.setRule(2, 1), 3);
    }

    private static void setRuleRefused() {
        says(3, "Throws `IllegalArgumentException` if rule or value is out of range");
        int[][] wrong = {{-1, 1}, {3, 1}, {0, -1}, {0, 6}, {1, 0}, {1, 5}, {2, 0}, {2, 5}, {-1, -1}, {3, 6}};
        for (int[] pair : wrong) {
            Check.refused("setRule(" + pair[0] + ", " + pair[1] + ")", Systems::rich, Check.ARGUMENT,
                    x -> x.setRule(pair[0], pair[1]));
        }
    }

    // ---- promise 4

    private static void addsAKey() {
        says(4, "Adds a key.");
        MasterPins x = Systems.rich();
        Check.same("number", x.addKey(333, 1), 3);
        int[] due = {333, 1, 0, 2, 0, 0, 0};
        for (int what = 0; what < due.length; what++) {
            Check.same("value " + what, x.key(3, what), due[what]);
        }
        Check.same("keys", x.whole(5), 4);
        Check.same("the master has one more below it", x.key(1, 4), 2);
        Check.same("and its master", x.key(0, 4), 3);
        Check.same("cylinders stay", x.whole(12), Systems.rich().whole(12));
    }

    private static void addKeyUndoable() {
        says(4, "Undoable.");
        Check.undoable("addKey with a master", Systems::some, x -> x.addKey(333, 2));
        Check.undoable("addKey without a master", Systems::some, x -> x.addKey(0, NONE));
        Check.undoable("the first key", MasterPins::new, x -> x.addKey(0, NONE));
        MasterPins x = Systems.some();
        x.addKey(333, 2);
        x.undo();
        Check.same("the code is free again", x.addKey(333, NONE), 3);
        Check.same("without the master", x.key(3, 1), NONE);
    }

    private static void addKeyCode() {
        says(4, "`code`: any number");
        MasterPins x = new MasterPins();
        Check.same("the least code", x.addKey(0, NONE), 0);
        Check.same("the greatest code", x.addKey(444, NONE), 1);
        Check.same("zeros in front", x.addKey(4, NONE), 2);
        MasterPins large = Systems.of(4, 6);
        Check.same("the greatest code of the largest system", large.addKey(5555, NONE), 0);
        MasterPins small = Systems.of(2, 2);
        Check.same("the greatest code of the smallest system", small.addKey(11, NONE), 0);
        Check.refusedFor("code", NO_CODES, Systems::rich, Check.ARGUMENT, (y, code) -> y.addKey(code, NONE));
    }

    private static void addKeyMaster() {
        says(4, "`master`: number of a key, or NONE");
        for (int master = -1; master <= 2; master++) {
            MasterPins x = Systems.rich();
            Check.same("key with master " + master, x.addKey(333, master), 3);
            Check.same("master", x.key(3, 1), master);
            Check.same("keys above", x.key(3, 3), master + 1);
        }
        Check.same("a lost key may be a master", Systems.rich().addKey(333, 2), 3);
        Check.refusedFor("master", Systems.NO_KEY_NOR_NONE, Systems::rich, Check.INDEX,
                (y, master) -> y.addKey(333, master));
    }

    private static void addKeyAnswer() {
        says(4, "Returns the number of the key.");
        MasterPins x = Systems.of(4, 6);
        for (int key = 0; key < 16; key++) {
            Check.same("number", x.addKey(key / 4 * 1000 + key % 4, key - 1), key);
        }
        x.undo();
        Check.same("the last one again", x.addKey(5555, 0), 15);
        x.begin(4, 6);
        Check.same("the first one again", x.addKey(5555, NONE), 0);
    }

    private static void addKeyNoMaster() {
        says(4, "Throws `IndexOutOfBoundsException` if master is neither NONE nor a key");
        Check.refused("the first key", MasterPins::new, Check.INDEX, x -> x.addKey(0, 0));
        Check.refused("its own number", Systems::rich, Check.INDEX, x -> x.addKey(333, 3));
        Check.refused("below NONE", Systems::rich, Check.INDEX, x -> x.addKey(333, -2));
        Check.refused("before its code", Systems::rich, Check.INDEX, x -> x.addKey(123, 3));
        Check.refused("before the number of keys", Systems::full, Check.INDEX, x -> x.addKey(5432, 16));
        Check.refused("before both", Systems::full, Check.INDEX, x -> x.addKey(0, -2));
        Check.refused("a key of another system", () -> {
            MasterPins x = Systems.full();
            x.begin(4, 6);
            return x;
        }, Check.INDEX, x -> x.addKey(0, 0));
    }

    private static void addKeyNoCode() {
        says(4, "Throws `IllegalArgumentException` if the code cannot be given to a new key");
        Check.refused("reason 1", Systems::rich, Check.ARGUMENT, x -> x.addKey(500, 0));
        Check.refused("reason 2", () -> Systems.withRules(3, 5, 3, 1, 1), Check.ARGUMENT, x -> x.addKey(40, NONE));
        Check.refused("reason 3", () -> Systems.withRules(3, 5, 5, 2, 1), Check.ARGUMENT, x -> x.addKey(0, NONE));
        Check.refused("reason 4", Systems::rich, Check.ARGUMENT, x -> x.addKey(123, 0));
        Check.refused("reason 4, a lost key", Systems::rich, Check.ARGUMENT, x -> x.addKey(401, 0));
        Check.refused("before the number of keys", Systems::full, Check.ARGUMENT, x -> x.addKey(0, 0));
        Check.refused("before the number of keys", Systems::full, Check.ARGUMENT, x -> x.addKey(6000, NONE));
    }

    private static void addKeyFull() {
        says(4, "Throws `IllegalStateException` if there are 16 keys");
        Check.refused("the 17th", Systems::full, Check.STATE, x -> x.addKey(5432, 15));
        Check.refused("the 17th without master", Systems::full, Check.STATE, x -> x.addKey(5432, NONE));
        Check.refused("lost keys count", Systems::allLost, Check.STATE, x -> x.addKey(5432, NONE));
        MasterPins x = Systems.of(4, 6);
        for (int key = 0; key < 15; key++) {
            x.addKey(key / 5 * 1000 + key % 5, NONE);
        }
        Check.same("the 16th", x.addKey(5432, 14), 15);
    }

    // ---- promise 5

    private static void cutsAnew() {
        says(5, "Cuts a key anew, with another code or the same one; cylinders stay.");
        MasterPins x = Systems.rich();
        Check.same("another code", x.recut(1, 333), 3);
        Check.same("code", x.key(1, 0), 333);
        Check.same("the same one", x.recut(1, 333), 0);
        Check.same("code", x.key(1, 0), 333);
        Check.same("master", x.key(1, 1), 0);
        Check.same("keys above", x.key(1, 3), 1);
        Check.same("a lost key", x.recut(2, 444), 2);
        Check.same("which stays lost", x.key(2, 2), 1);
        MasterPins before = Systems.rich();
        for (int door = 0; door < 2; door++) {
            for (int chamber = 0; chamber < 3; chamber++) {
                Check.same("cylinder", x.pins(door, chamber), before.pins(door, chamber));
            }
        }
    }

    private static void recutUndoable() {
        says(5, "Undoable.");
        Check.undoable("another code", Systems::some, x -> x.recut(2, 333));
        Check.undoable("the same code", Systems::some, x -> x.recut(2, 401));
    }

    private static void recutKey() {
        says(5, "`key`: number of a key");
        for (int key = 0; key <= 2; key++) {
            MasterPins x = Systems.rich();
            x.recut(key, 333);
            for (int other = 0; other <= 2; other++) {
                Check.same("code of key " + other, x.key(other, 0), other == key ? 333 : Systems.rich().key(other, 0));
            }
        }
        Check.same("the last of 16", Systems.full().recut(15, 5432), 4);
        Check.refusedFor("key", Systems.NO_KEY, Systems::rich, Check.INDEX, (y, key) -> y.recut(key, 333));
    }

    private static void recutCode() {
        says(5, "`code`: any number");
        Check.same("the least code", Systems.rich().recut(0, 0), 3);
        Check.same("the greatest code", Systems.rich().recut(0, 444), 3);
        Check.refusedFor("code", NO_CODES, Systems::rich, Check.ARGUMENT, (y, code) -> y.recut(0, code));
    }

    private static void recutAnswer() {
        says(5, "Returns the number of chambers in which the code differs from the previous one.");
        int[] codes = {0, 1, 22, 333, 4444, 5432, 5430, 5030, 35, 35, 5300};
        int[] due = {0, 1, 2, 3, 4, 3, 1, 1, 2, 0, 4};
        MasterPins x = Systems.withKeys(4, 6, 0);
        for (int index = 0; index < codes.length; index++) {
            Check.same("recut with " + codes[index], x.recut(0, codes[index]), due[index]);
        }
        Check.same("both of two chambers", Systems.withKeys(2, 2, 10).recut(0, 1), 2);
    }

    private static void recutNoKey() {
        says(5, "Throws `IndexOutOfBoundsException` if there is no such key");
        Check.refused("without keys", MasterPins::new, Check.INDEX, x -> x.recut(0, 0));
        Check.refused("NONE", Systems::rich, Check.INDEX, x -> x.recut(NONE, 333));
        Check.refused("the number of keys", Systems::rich, Check.INDEX, x -> x.recut(3, 333));
        Check.refused("key 16", Systems::full, Check.INDEX, x -> x.recut(16, 5432));
        Check.refused("before its code", Systems::rich, Check.INDEX, x -> x.recut(3, 500));
    }

    private static void recutNoCode() {
        says(5, "Throws `IllegalArgumentException` if the code cannot be given to the key");
        Check.refused("reason 1", Systems::rich, Check.ARGUMENT, x -> x.recut(0, 500));
        Check.refused("reason 4", Systems::rich, Check.ARGUMENT, x -> x.recut(0, 144));
        Check.refused("reason 4, a lost key", Systems::rich, Check.ARGUMENT, x -> x.recut(0, 401));
        Check.refused("reason 2, its own", EdgesOfKeys::withoutSteps, Check.ARGUMENT, x -> x.recut(0, 123));
        Check.refused("reason 3, its own", EdgesOfKeys::withVariety, Check.ARGUMENT, x -> x.recut(1, 144));
        MasterPins x = Systems.rich();
        x.setRule(2, 3);
        Check.same("its own code does not count", x.recut(0, 223), 1);
        Check.refused("the code of another does", EdgesOfKeys::withDifference, Check.ARGUMENT, y -> y.recut(0, 133));
    }

    private static MasterPins withoutSteps() {
        MasterPins x = Systems.rich();
        x.setRule(0, 0);
        return x;
    }

    private static MasterPins withVariety() {
        MasterPins x = Systems.rich();
        x.setRule(1, 3);
        return x;
    }

    private static MasterPins withDifference() {
        MasterPins x = Systems.rich();
        x.setRule(2, 3);
        return x;
    }

    // ---- promise 6

    private static void loses() {
        says(6, "Tells that a key is lost.");
        MasterPins x = Systems.rich();
        x.lose(0);
        Check.same("lost", x.key(0, 2), 1);
        Check.same("lost keys", x.whole(7), 2);
        Check.same("right key of no door", x.key(0, 6), 0);
        Check.same("its code opens what it did", x.key(0, 5), 3);
        Check.same("its code stays", x.key(0, 0), 123);
        Check.same("another key is not lost", x.key(1, 2), 0);
    }

    private static void loseUndoable() {
        says(6, "Undoable.");
        Check.undoable("lose", Systems::some, x -> x.lose(0));
        Check.undoable("lose the last of 16", Systems::nearlyFull, x -> x.lose(15));
    }

    private static void loseKey() {
        says(6, "`key`: number of a key");
        for (int key = 0; key < 16; key++) {
            MasterPins x = Systems.full();
            x.lose(key);
            for (int other = 0; other < 16; other++) {
                Check.same("key " + other, x.key(other, 2), other == key ? 1 : 0);
            }
        }
        Check.refusedFor("key", Systems.NO_KEY, Systems::rich, Check.INDEX, (y, key) -> y.lose(key));
    }

    private static void loseAnswer() {
        says(6, "Returns the number of doors that its code opens.");
        Check.same("no doors", Systems.withKeys(3, 5, 0).lose(0), 0);
        Check.same("12 doors", Systems.full().lose(15), 12);
        MasterPins x = Systems.withKeys(3, 5, 0, 111);
        x.addDoor(0);
        Check.same("opens none", x.lose(1), 0);
        x.find(1);
        x.pin(0, 1);
        Check.same("opens one of which it is no right key", x.lose(1), 1);
        x.recut(0, 222);
        Check.same("opens none of which it is a right key", x.lose(0), 0);
    }

    private static void loseNoKey() {
        says(6, "Throws `IndexOutOfBoundsException` if there is no such key");
        Check.refused("without keys", MasterPins::new, Check.INDEX, x -> x.lose(0));
        Check.refused("NONE", Systems::rich, Check.INDEX, x -> x.lose(NONE));
        Check.refused("the number of keys", Systems::rich, Check.INDEX, x -> x.lose(3));
        Check.refused("key 16", Systems::full, Check.INDEX, x -> x.lose(16));
        Check.refused("32 above a lost key", Systems::rich, Check.INDEX, x -> x.lose(34));
    }

    private static void loseLost() {
        says(6, "Throws `IllegalStateException` if it is lost");
        Check.refused("a lost key", Systems::rich, Check.STATE, x -> x.lose(2));
        for (int key = 0; key < 16; key++) {
            int lost = key;
            Check.refused("all lost, key " + key, Systems::allLost, Check.STATE, x -> x.lose(lost));
        }
        MasterPins x = Systems.rich();
        x.find(2);
        Check.same("found, it can be lost again", x.lose(2), 2);
    }

    // ---- promise 7

    private static void finds() {
        says(7, "Tells that a lost key was found.");
        MasterPins x = Systems.rich();
        x.find(2);
        Check.same("not lost", x.key(2, 2), 0);
        Check.same("lost keys", x.whole(7), 0);
        Check.same("right key of its door again", x.key(2, 6), 1);
        Check.same("its code stays", x.key(2, 0), 401);
    }

    private static void findUndoable() {
        says(7, "Undoable.");
        Check.undoable("find", Systems::some, x -> x.find(2));
        Check.undoable("find the last of 16", () -> {
            MasterPins x = Systems.allLost();
            x.undo();
            x.undo();
            x.lose(15);
            return x;
        }, x -> x.find(15));
    }

    private static void findKey() {
        says(7, "`key`: number of a key");
        for (int key = 0; key < 16; key++) {
            MasterPins x = Systems.allLost();
            x.find(key);
            for (int other = 0; other < 16; other++) {
                Check.same("key " + other, x.key(other, 2), other == key ? 0 : 1);
            }
        }
        Check.refusedFor("key", Systems.NO_KEY, Systems::rich, Check.INDEX, (y, key) -> y.find(key));
    }

    private static void findAnswer() {
        says(7, "Returns the number of keys that are lost then.");
        MasterPins x = Systems.allLost();
        for (int key = 0; key < 16; key++) {
            Check.same("keys that are lost still", x.find(key), 15 - key);
        }
    }

    private static void findNoKey() {
        says(7, "Throws `IndexOutOfBoundsException` if there is no such key");
        Check.refused("without keys", MasterPins::new, Check.INDEX, x -> x.find(0));
        Check.refused("NONE", Systems::rich, Check.INDEX, x -> x.find(NONE));
        Check.refused("the number of keys", Systems::rich, Check.INDEX, x -> x.find(3));
        Check.refused("key 16", Systems::allLost, Check.INDEX, x -> x.find(16));
        Check.refused("32 above a lost key", Systems::rich, Check.INDEX, x -> x.find(34));
    }

    private static void findNotLost() {
        says(7, "Throws `IllegalStateException` if it is not lost");
        Check.refused("a key that never was", Systems::rich, Check.STATE, x -> x.find(0));
        Check.refused("none is lost", Systems::full, Check.STATE, x -> x.find(15));
        Check.refused("a key that was found", () -> {
            MasterPins x = Systems.rich();
            x.find(2);
            return x;
        }, Check.STATE, x -> x.find(2));
    }
}
