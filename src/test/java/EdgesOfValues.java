/** The edges of promises 13 to 18: the values. */
final class EdgesOfValues {
    private static final int NONE = MasterPins.NONE;
    private static final int ALL_KEYS = (1 << 16) - 1;
    private static final int ALL_DOORS = (1 << 12) - 1;
    private static final int[] NEGATIVE = {-1, -2, Integer.MIN_VALUE};

    private EdgesOfValues() {
    }

    static void run() {
        valueOfAKey();
        keyKey();
        keyWhat();
        keyAnswer();
        keyNoKey();
        keyNoWhat();
        valueOfADoor();
        doorDoor();
        doorWhat();
        doorAnswer();
        doorNoDoor();
        doorNoWhat();
        pinsOfAChamber();
        pinsDoor();
        pinsChamber();
        pinsAnswer();
        pinsNoDoorOrChamber();
        valueOfTheWhole();
        wholeWhat();
        wholeAnswer();
        wholeNoWhat();
        valueOfAWork();
        workIndex();
        workWhat();
        workAnswer();
        workRefused();
        keyInTheOrderOfCodes();
        byCodeIndex();
        byCodeAnswer();
        byCodeRefused();
    }

    private static void says(int promise, String words) {
        Check.sentence("Promise " + promise, words);
    }

    private static int[] beyond(int last) {
        return new int[] {-1, last + 1, last + 2, Integer.MIN_VALUE, Integer.MAX_VALUE};
    }

    private static void keyIs(String name, MasterPins x, int key, int... due) {
        for (int what = 0; what < due.length; what++) {
            Check.same(name + ", value " + what, x.key(key, what), due[what]);
        }
    }

    private static void doorIs(String name, MasterPins x, int door, int... due) {
        for (int what = 0; what < due.length; what++) {
            Check.same(name + ", value " + what, x.door(door, what), due[what]);
        }
    }

    private static void wholeIs(String name, MasterPins x, int... due) {
        for (int what = 0; what < due.length; what++) {
            Check.same(name + ", value " + what, x.whole(what), due[what]);
        }
    }

    private static MasterPins withoutDoors() {
        return Systems.withKeys(3, 5, 0);
    }

    // ---- promise 13

    private static void valueOfAKey() {
        says(13, "Returns a value of a key.");
        for (int key = 0; key <= 2; key++) {
            for (int what = 0; what <= 6; what++) {
                int asked = key;
                int value = what;
                Check.changesNothing("key(" + key + ", " + what + ")", Systems::rich, x -> x.key(asked, value));
            }
        }
    }

    private static void keyKey() {
        says(13, "`key`: number of a key");
        int[] codes = {0, 1111, 2222, 3333, 4444, 5555, 1, 2, 3, 4, 5, 10, 20, 30, 40, 50};
        MasterPins x = Systems.full();
        for (int key = 0; key < 16; key++) {
            keyIs("key " + key, x, key, codes[key], key - 1, 0, key, 15 - key, ALL_DOORS, ALL_DOORS);
        }
        Check.refusedFor("key", Systems.NO_KEY, Systems::rich, Check.INDEX, (y, key) -> y.key(key, 0));
    }

    private static void keyWhat() {
        says(13, "`what`: 0 code, 1 master (NONE without one), 2 1 if it is lost or 0 if not, 3 number of keys above it, "
                + "4 number of keys of which it is one of the keys above, 5 set of the doors that its code opens, "
                + "bit d for the door d, 6 set of the doors of which it is a right key");
        MasterPins x = Systems.rich();
        keyIs("without master", x, 0, 123, NONE, 0, 0, 2, 0b11, 0b11);
        keyIs("between", x, 1, 144, 0, 0, 1, 1, 0b11, 0b11);
        keyIs("lost, the last one", x, 2, 401, 1, 1, 2, 0, 0b11, 0);
        keyIs("without doors", withoutDoors(), 0, 0, NONE, 0, 0, 0, 0, 0);
        MasterPins full = Systems.full();
        full.setOwner(0, 14);
        full.setOwner(11, 14);
        full.recut(5, 5500);
        full.recut(15, 5554);
        full.fit(0);
        // No right key of door 0 has the cut 5 in chamber 2 then; the other cylinders stay.
        keyIs("the last of 16", full, 15, 5554, 14, 0, 15, 0, ALL_DOORS - 1, ALL_DOORS - 1 - (1 << 11));
    }

    private static void keyAnswer() {
        says(13, "Returns that value.");
        MasterPins x = Systems.withKeys(3, 5, 111, 222);
        for (int door = 0; door < 12; door++) {
            x.addDoor(door % 2);
        }
        keyIs("even doors", x, 0, 111, NONE, 0, 0, 0, 0b010101010101, 0b010101010101);
        keyIs("odd doors", x, 1, 222, NONE, 0, 0, 0, 0b101010101010, 0b101010101010);
        x.lose(1);
        keyIs("lost", x, 1, 222, NONE, 1, 0, 0, 0b101010101010, 0);
        x.recut(0, 0);
        keyIs("cut anew", x, 0, 0, NONE, 0, 0, 0, 0, 0b010101010101);
    }

    private static void keyNoKey() {
        says(13, "Throws `IndexOutOfBoundsException` if there is no such key");
        Check.refused("without keys", MasterPins::new, Check.INDEX, x -> x.key(0, 0));
        Check.refused("the number of keys", Systems::rich, Check.INDEX, x -> x.key(3, 0));
        Check.refused("NONE", Systems::rich, Check.INDEX, x -> x.key(NONE, 1));
        Check.refused("key 16", Systems::full, Check.INDEX, x -> x.key(16, 0));
        Check.refused("before what", Systems::rich, Check.INDEX, x -> x.key(3, 7));
        Check.refused("before what", Systems::rich, Check.INDEX, x -> x.key(NONE, -1));
    }

    private static void keyNoWhat() {
        says(13, "Throws `IllegalArgumentException` if what is out of range");
        Check.refusedFor("what", beyond(6), Systems::rich, Check.ARGUMENT, (x, what) -> x.key(0, what));
    }

    // ---- promise 14

    private static void valueOfADoor() {
        says(14, "Returns a value of a door.");
        for (int what = 0; what <= 8; what++) {
            int value = what;
            Check.changesNothing("door(0, " + what + ")", Systems::rich, x -> x.door(0, value));
        }
    }

    private static void doorDoor() {
        says(14, "`door`: number of a door");
        MasterPins x = Systems.full();
        for (int door = 0; door < 12; door++) {
            doorIs("door " + door, x, door, 15, 24, ALL_KEYS, ALL_KEYS, 0, 1280, 0, 0, 1296);
        }
        Check.refusedFor("door", Systems.NO_DOOR, Systems::rich, Check.INDEX, (y, door) -> y.door(door, 0));
    }

    private static void doorWhat() {
        says(14, "`what`: 0 owner, 1 number of its pins, 2 set of the keys whose codes open it, bit k for the key k, "
                + "3 set of its right keys, 4 number of its wrong keys, 5 number of its ghosts, "
                + "6 1 if it is exposed or 0 if not, 7 pins that would change if it were fitted now, "
                + "8 number of codes that open it, obeying rules or not");
        MasterPins x = Systems.rich();
        // Pins 1 4, 0 2 4 and 1 3 4: 18 codes, three of which are keys'.
        doorIs("door of the lost key", x, 0, 2, 8, 0b111, 0b011, 1, 15, 1, 3, 18);
        doorIs("door of the key above", x, 1, 1, 8, 0b111, 0b011, 1, 15, 1, 3, 18);
    }

    private static void doorAnswer() {
        says(14, "Returns that value.");
        doorIs("all lost", Systems.allLost(), 11, 15, 24, ALL_KEYS, 0, 16, 1280, 1, 24, 1296);
        MasterPins empty = Systems.allLost();
        empty.fit(11);
        doorIs("no pins", empty, 11, 15, 0, 0, 0, 0, 0, 0, 0, 0);
        empty.find(15);
        doorIs("no pins and a right key", empty, 11, 15, 0, 0, 1 << 15, 1, 0, 0, 4, 0);
        empty.fit(11);
        doorIs("one code", empty, 11, 15, 4, 1 << 15, 1 << 15, 0, 0, 0, 0, 1);
        MasterPins rules = Systems.full();
        rules.setRule(0, 0);
        doorIs("codes without steps are all keys'", rules, 0, 15, 24, ALL_KEYS, ALL_KEYS, 0, 0, 0, 0, 1296);
        rules.setRule(0, 5);
        rules.setRule(1, 4);
        doorIs("codes of four cuts", rules, 0, 15, 24, ALL_KEYS, ALL_KEYS, 0, 360, 0, 0, 1296);
        rules.setRule(1, 1);
        rules.setRule(2, 4);
        doorIs("codes need not differ", rules, 0, 15, 24, ALL_KEYS, ALL_KEYS, 0, 1280, 0, 0, 1296);
    }

    private static void doorNoDoor() {
        says(14, "Throws `IndexOutOfBoundsException` if there is no such door");
        Check.refused("without doors", EdgesOfValues::withoutDoors, Check.INDEX, x -> x.door(0, 0));
        Check.refused("the number of doors", Systems::rich, Check.INDEX, x -> x.door(2, 0));
        Check.refused("door 12", Systems::full, Check.INDEX, x -> x.door(12, 0));
        Check.refused("before what", Systems::rich, Check.INDEX, x -> x.door(2, 9));
        Check.refused("before what", Systems::rich, Check.INDEX, x -> x.door(-1, -1));
    }

    private static void doorNoWhat() {
        says(14, "Throws `IllegalArgumentException` if what is out of range");
        Check.refusedFor("what", beyond(8), Systems::rich, Check.ARGUMENT, (x, what) -> x.door(0, what));
    }

    // ---- promise 15

    private static void pinsOfAChamber() {
        says(15, "Returns the pins of a chamber of a door.");
        Check.changesNothing("pins", Systems::rich, x -> x.pins(1, 2));
        Check.same("chamber 0", Systems.rich().pins(0, 0), 1 << 1 | 1 << 4);
        Check.same("chamber 1", Systems.rich().pins(0, 1), 1 << 2 | 1 << 4 | 1);
        Check.same("chamber 2", Systems.rich().pins(0, 2), 1 << 3 | 1 << 4 | 1 << 1);
    }

    private static void pinsDoor() {
        says(15, "`door`: number of a door");
        MasterPins x = Systems.full();
        for (int door = 0; door < 12; door++) {
            Check.same("door " + door, x.pins(door, 3), 63);
        }
        Check.refusedFor("door", Systems.NO_DOOR, Systems::rich, Check.INDEX, (y, door) -> y.pins(door, 0));
    }

    private static void pinsChamber() {
        says(15, "`chamber`: number of a chamber");
        for (int chambers = 2; chambers <= 4; chambers++) {
            int many = chambers;
            MasterPins x = Systems.withKeys(chambers, 6, 0, 5);
            x.addDoor(0);
            x.pin(0, 1);
            Check.same("the last one of " + chambers, x.pins(0, chambers - 1), 33);
            Check.same("the first one of " + chambers, x.pins(0, 0), 1);
            Check.refused("the number of chambers", () -> {
                MasterPins y = Systems.withKeys(many, 6, 0);
                y.addDoor(0);
                return y;
            }, Check.INDEX, y -> y.pins(0, many));
        }
        Check.refusedFor("chamber", Systems.NO_CHAMBER, Systems::rich, Check.INDEX, (y, chamber) -> y.pins(0, chamber));
    }

    private static void pinsAnswer() {
        says(15, "Returns the set, bit p for the pin p.");
        MasterPins x = Systems.withKeys(4, 6, 0, 1111, 2222, 3333, 4444, 5555);
        for (int key = 0; key < 6; key++) {
            x.addDoor(key);
            Check.same("pin " + key, x.pins(key, 3), 1 << key);
        }
        x.lose(0);
        x.fit(0);
        Check.same("no pins", x.pins(0, 0), 0);
        Check.same("all pins", Systems.full().pins(0, 0), 63);
    }

    private static void pinsNoDoorOrChamber() {
        says(15, "Throws `IndexOutOfBoundsException` if there is no such door or chamber");
        Check.refused("without doors", EdgesOfValues::withoutDoors, Check.INDEX, x -> x.pins(0, 0));
        Check.refused("the number of doors", Systems::rich, Check.INDEX, x -> x.pins(2, 0));
        Check.refused("the number of chambers", Systems::rich, Check.INDEX, x -> x.pins(0, 3));
        Check.refused("-1", Systems::rich, Check.INDEX, x -> x.pins(0, -1));
        Check.refused("both", Systems::rich, Check.INDEX, x -> x.pins(2, 3));
        Check.refused("chamber 4 of 4", Systems::full, Check.INDEX, x -> x.pins(0, 4));
    }

    // ---- promise 16

    private static void valueOfTheWhole() {
        says(16, "Returns a value of the whole.");
        for (int what = 0; what <= 13; what++) {
            int value = what;
            Check.changesNothing("whole(" + what + ")", Systems::rich, x -> x.whole(value));
        }
    }

    private static void wholeWhat() {
        says(16, "`what`: 0 chambers, 1 depths, 2 to 4 the rules 0 to 2, 5 keys, 6 doors, 7 lost keys, "
                + "8 sum of the numbers of wrong keys of all doors, 9 sum of the numbers of ghosts of all doors, "
                + "10 exposed doors, 11 works, 12 pins of all doors, 13 length of the command text");
        wholeIs("rich", Systems.rich(), 3, 5, 4, 1, 1, 3, 2, 1, 2, 30, 2, 2, 16, 17);
    }

    private static void wholeAnswer() {
        says(16, "Returns that value.");
        wholeIs("new", new MasterPins(), 3, 5, 5, 1, 1, 0, 0, 0, 0, 0, 0, 0, 0, 0);
        wholeIs("full", Systems.full(), 4, 6, 5, 1, 1, 16, 12, 0, 0, 12 * 1280, 0, 0, 12 * 24, 0);
        MasterPins x = Systems.allLost();
        Check.typed(x, " ".repeat(150));
        wholeIs("all lost", x, 4, 6, 5, 1, 1, 16, 12, 16, 12 * 16, 12 * 1280, 12, 12, 12 * 24, 150);
        x.fitAll();
        wholeIs("no pins", x, 4, 6, 5, 1, 1, 16, 12, 16, 0, 0, 0, 0, 0, 150);
        MasterPins least = Systems.withRules(2, 2, 0, 4, 4);
        wholeIs("least", least, 2, 2, 0, 4, 4, 0, 0, 0, 0, 0, 0, 0, 0, 0);
    }

    private static void wholeNoWhat() {
        says(16, "Throws `IllegalArgumentException` if what is out of range");
        Check.refusedFor("what", beyond(13), Systems::rich, Check.ARGUMENT, (x, what) -> x.whole(what));
    }

    // ---- promise 17

    private static void valueOfAWork() {
        says(17, "Returns a value of a work.");
        for (int what = 0; what <= 2; what++) {
            int value = what;
            Check.changesNothing("work(0, " + what + ")", Systems::rich, x -> x.work(0, value));
            Check.changesNothing("work(9, " + what + ")", Systems::rich, x -> x.work(9, value));
        }
    }

    private static void workIndex() {
        says(17, "`index`: 0 for the first one, and so on");
        MasterPins x = Systems.allLost();
        for (int index = 0; index < 12; index++) {
            Check.same("work " + index, x.work(index, 0), index);
        }
        Check.refusedFor("index", NEGATIVE, Systems::rich, Check.ARGUMENT, (y, index) -> y.work(index, 0));
    }

    private static void workWhat() {
        says(17, "`what`: 0 door, 1 pins that change, 2 wrong keys that the door has now");
        MasterPins x = Systems.allLost();
        x.fit(0);
        x.find(15);
        x.setOwner(5, 14);
        // Door 5 has 16 wrong keys, the others 15, but the first one, whose own key opens it not.
        int[][] due = {{5, 24, 16}, {1, 20, 15}, {2, 20, 15}};
        for (int index = 0; index < due.length; index++) {
            for (int what = 0; what <= 2; what++) {
                Check.same("work " + index + ", value " + what, x.work(index, what), due[index][what]);
            }
        }
        Check.same("the last one's door", x.work(11, 0), 0);
        Check.same("the last one's pins", x.work(11, 1), 4);
        Check.same("the last one's wrong keys", x.work(11, 2), 1);
    }

    private static void workAnswer() {
        says(17, "Returns that value; NONE if there are not so many.");
        for (int what = 0; what <= 2; what++) {
            Check.same("no doors", new MasterPins().work(0, what), NONE);
            Check.same("no works", Systems.full().work(0, what), NONE);
            Check.same("the last of two", Systems.rich().work(1, what), what == 1 ? 3 : 1);
            Check.same("behind the last of two", Systems.rich().work(2, what), NONE);
            Check.same("behind the last of twelve", Systems.allLost().work(12, what), NONE);
            Check.same("far behind", Systems.allLost().work(Integer.MAX_VALUE, what), NONE);
        }
    }

    private static void workRefused() {
        says(17, "Throws `IllegalArgumentException` if index is negative, or what is out of range");
        Check.refused("index -1", Systems::rich, Check.ARGUMENT, x -> x.work(-1, 0));
        Check.refusedFor("what", beyond(2), Systems::rich, Check.ARGUMENT, (x, what) -> x.work(0, what));
        Check.refusedFor("what behind the last", beyond(2), Systems::rich, Check.ARGUMENT, (x, what) -> x.work(2, what));
        Check.refusedFor("what of no works", beyond(2), MasterPins::new, Check.ARGUMENT, (x, what) -> x.work(0, what));
        Check.refused("both", Systems::rich, Check.ARGUMENT, x -> x.work(-1, 3));
    }

    // ---- promise 18

    private static void keyInTheOrderOfCodes() {
        says(18, "Returns a key in the order of codes.");
        Check.changesNothing("byCode", Systems::rich, x -> x.byCode(0));
        MasterPins x = Systems.full();
        int[] due = {0, 6, 7, 8, 9, 10, 11, 12, 13, 14, 15, 1, 2, 3, 4, 5};
        for (int index = 0; index < 16; index++) {
            Check.same("place " + index, x.byCode(index), due[index]);
        }
        x.lose(0);
        Check.same("a lost key too", x.byCode(0), 0);
        x.recut(0, 5554);
        Check.same("cut anew", x.byCode(14), 0);
        Check.same("the one behind it", x.byCode(0), 6);
    }

    private static void byCodeIndex() {
        says(18, "`index`: 0 for the key with the lowest code, and so on");
        MasterPins x = Systems.withKeys(3, 5, 444, 4, 40, 400, 0);
        int[] due = {4, 1, 2, 3, 0};
        for (int index = 0; index < due.length; index++) {
            Check.same("place " + index, x.byCode(index), due[index]);
        }
        Check.refusedFor("index", NEGATIVE, Systems::rich, Check.ARGUMENT, MasterPins::byCode);
    }

    private static void byCodeAnswer() {
        says(18, "Returns the key; NONE if there are not so many.");
        Check.same("no keys", new MasterPins().byCode(0), NONE);
        Check.same("the last of three", Systems.rich().byCode(2), 2);
        Check.same("behind the last of three", Systems.rich().byCode(3), NONE);
        Check.same("the last of 16", Systems.full().byCode(15), 5);
        Check.same("behind the last of 16", Systems.full().byCode(16), NONE);
        Check.same("far behind", Systems.full().byCode(Integer.MAX_VALUE), NONE);
    }

    private static void byCodeRefused() {
        says(18, "Throws `IllegalArgumentException` if index is negative");
        Check.refused("-1", Systems::rich, Check.ARGUMENT, x -> x.byCode(-1));
        Check.refused("-1 without keys", MasterPins::new, Check.ARGUMENT, x -> x.byCode(-1));
        Check.refused("the least number", Systems::full, Check.ARGUMENT, x -> x.byCode(Integer.MIN_VALUE));
    }
}
