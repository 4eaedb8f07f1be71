/** The edges that the document's terms of keys, doors and works name. */
final class EdgesOfTerms {
    private static final int NONE = MasterPins.NONE;
    private static final String KEYS = "KEYS";
    private static final String DOORS = "DOORS";
    private static final String WORKS = "WORKS";
    private static final int ALL_KEYS = (1 << 16) - 1;
    private static final int ALL_DOORS = (1 << 12) - 1;

    private EdgesOfTerms() {
    }

    static void run() {
        chambers();
        depths();
        digits();
        firstDigit();
        cutBelowDepths();
        greatestStep();
        leastVariety();
        leastDifference();
        mostKeys();
        master();
        keysAbove();
        noCode();
        reasonsInOrder();
        aStepTooGreat();
        tooLittleVariety();
        lostKeysCount();
        keysStay();
        mostDoors();
        pinsAreDepths();
        opens();
        rightKeys();
        fitting();
        pinsThatChange();
        withoutRightKeys();
        wrongKeys();
        ghosts();
        exposed();
        works();
        exposedFirst();
        moreWrongKeys();
        fewerPins();
        byNumbers();
    }

    private static void reasonIs(MasterPins x, int code, int due) {
        Check.same("reason against a new key with " + code, x.reason(NONE, code), due);
    }

    // ---- keys

    private static void chambers() {
        Check.sentence(KEYS, "A system has chambers (2 to 4; 3 at first)");
        Check.same("at first", new MasterPins().whole(0), 3);
        for (int chambers = 2; chambers <= 4; chambers++) {
            Check.same("begin with " + chambers, Systems.of(chambers, 5).whole(0), chambers);
        }
        Check.refused("1 chamber", Systems::rich, Check.ARGUMENT, x -> x.begin(1, 5));
        Check.refused("5 chambers", Systems::rich, Check.ARGUMENT, x -> x.begin(5, 5));
    }

    private static void depths() {
        Check.sentence(KEYS, "depths (2 to 6; 5 at first)");
        Check.same("at first", new MasterPins().whole(1), 5);
        for (int depths = 2; depths <= 6; depths++) {
            Check.same("begin with " + depths, Systems.of(3, depths).whole(1), depths);
        }
        Check.refused("1 depth", Systems::rich, Check.ARGUMENT, x -> x.begin(3, 1));
        Check.refused("7 depths", Systems::rich, Check.ARGUMENT, x -> x.begin(3, 7));
    }

    private static void digits() {
        Check.sentence(KEYS, "it is a number with so many decimal digits as there are chambers (zeros in front count)");
        int[] greatest = {11, 111, 1111};
        int[] tooLong = {100, 1000, 10000};
        for (int chambers = 2; chambers <= 4; chambers++) {
            MasterPins x = Systems.of(chambers, 2);
            reasonIs(x, 0, 0);
            reasonIs(x, 1, 0);
            reasonIs(x, greatest[chambers - 2], 0);
            reasonIs(x, tooLong[chambers - 2], 1);
            reasonIs(x, tooLong[chambers - 2] + 1, 1);
        }
    }

    private static void firstDigit() {
        Check.sentence(KEYS, "the first digit for chamber 0, and so on");
        MasterPins x = Systems.withKeys(4, 6, 12, 5340);
        x.addDoor(0);
        x.addDoor(1);
        int[][] cuts = {{0, 0, 1, 2}, {5, 3, 4, 0}};
        for (int door = 0; door < 2; door++) {
            for (int chamber = 0; chamber < 4; chamber++) {
                Check.same("pin of door " + door + ", chamber " + chamber, x.pins(door, chamber),
                        1 << cuts[door][chamber]);
            }
        }
    }

    private static void cutBelowDepths() {
        Check.sentence(KEYS, "A cut has to be below the number of depths.");
        for (int depths = 2; depths <= 6; depths++) {
            MasterPins x = Systems.of(3, depths);
            int greatest = depths - 1;
            reasonIs(x, 111 * greatest, 0);
            reasonIs(x, 100 * depths, 1);
            reasonIs(x, 10 * depths, 1);
            reasonIs(x, depths, 1);
            reasonIs(x, 111 * greatest + 1, 1);
            reasonIs(x, 999, 1);
        }
    }

    private static void greatestStep() {
        Check.sentence(KEYS, "0 greatest step (0 to 5; 5 at first): the greatest difference of the cuts of two neighboring chambers");
        Check.same("at first", new MasterPins().whole(2), 5);
        for (int step = 0; step <= 5; step++) {
            MasterPins x = Systems.withRules(4, 6, step, 1, 1);
            Check.same("rule", x.whole(2), step);
            for (int place = 1; place <= 1000; place *= 10) {
                reasonIs(x, step * place, 0);
                reasonIs(x, 5555 - step * place, 0);
                if (step < 5) {
                    reasonIs(x, (step + 1) * place, 2);
                    reasonIs(x, 5555 - (step + 1) * place, 2);
                }
            }
        }
        MasterPins two = Systems.withRules(4, 6, 2, 1, 1);
        reasonIs(two, 245, 0);
        reasonIs(two, 5310, 0);
        reasonIs(two, 2025, 2);
        Check.refused("step -1", Systems::rich, Check.ARGUMENT, x -> x.setRule(0, -1));
        Check.refused("step 6", Systems::rich, Check.ARGUMENT, x -> x.setRule(0, 6));
    }

    private static void leastVariety() {
        Check.sentence(KEYS, "1 least variety (1 to 4; 1 at first): the least number of different cuts of a code");
        Check.same("at first", new MasterPins().whole(3), 1);
        int[][] codes = {{0, 5555, 3333}, {1, 5000, 101, 3553}, {12, 1002, 5125, 5105}, {123, 3210, 5042, 2345}};
        for (int least = 1; least <= 4; least++) {
            MasterPins x = Systems.withRules(4, 6, 5, least, 1);
            Check.same("rule", x.whole(3), least);
            for (int variety = 1; variety <= 4; variety++) {
                for (int code : codes[variety - 1]) {
                    reasonIs(x, code, variety < least ? 3 : 0);
                }
            }
        }
        Check.same("more than there are chambers", Systems.withRules(3, 6, 5, 4, 1).freeCodes(), 0);
        Check.same("more than there are depths", Systems.withRules(4, 3, 5, 4, 1).freeCodes(), 0);
        Check.refused("variety 0", Systems::rich, Check.ARGUMENT, x -> x.setRule(1, 0));
        Check.refused("variety 5", Systems::rich, Check.ARGUMENT, x -> x.setRule(1, 5));
    }

    private static void leastDifference() {
        Check.sentence(KEYS, "2 least difference (1 to 4; 1 at first): the least number of chambers in which two keys differ");
        Check.same("at first", new MasterPins().whole(4), 1);
        int[][] codes = {{0}, {1, 500, 5000}, {11, 5005, 550}, {111, 5055, 5110}, {1111, 5555, 1234}};
        for (int least = 1; least <= 4; least++) {
            MasterPins x = Systems.withRules(4, 6, 5, 1, least);
            x.addKey(0, NONE);
            Check.same("rule", x.whole(4), least);
            for (int differing = 0; differing <= 4; differing++) {
                for (int code : codes[differing]) {
                    reasonIs(x, code, differing < least ? 4 : 0);
                }
            }
        }
        MasterPins two = Systems.withRules(2, 6, 5, 1, 3);
        reasonIs(two, 0, 0);
        two.addKey(0, NONE);
        reasonIs(two, 55, 4);
        Check.refused("difference 0", Systems::rich, Check.ARGUMENT, x -> x.setRule(2, 0));
        Check.refused("difference 5", Systems::rich, Check.ARGUMENT, x -> x.setRule(2, 5));
    }

    private static void mostKeys() {
        Check.sentence(KEYS, "There are at most 16 keys, numbered from 0.");
        MasterPins none = new MasterPins();
        Check.same("no keys", none.whole(5), 0);
        Check.refused("key 0 of none", MasterPins::new, Check.INDEX, x -> x.key(0, 0));
        MasterPins x = new MasterPins();
        for (int key = 0; key < 16; key++) {
            Check.same("number of a key", x.addKey(key / 4 * 10 + key % 4, NONE), key);
            Check.same("keys then", x.whole(5), key + 1);
        }
        Check.same("the last key", x.key(15, 0), 33);
        Check.refused("key 16", Systems::full, Check.INDEX, y -> y.key(16, 0));
        Check.refused("the 17th key", Systems::full, Check.STATE, y -> y.addKey(55, NONE));
    }

    private static void master() {
        Check.sentence(KEYS, "A key has a code, and a master, which is a key with a lower number, or none; it is lost or not.");
        MasterPins x = Systems.withKeys(3, 5, 123);
        Check.same("code", x.key(0, 0), 123);
        Check.same("none", x.key(0, 1), NONE);
        Check.same("not lost", x.key(0, 2), 0);
        x.lose(0);
        Check.same("lost", x.key(0, 2), 1);
        Check.same("the lowest number", x.addKey(124, 0), 1);
        Check.same("its master", x.key(1, 1), 0);
        Check.same("the number in front of its own", x.addKey(134, 1), 2);
        Check.same("its master", x.key(2, 1), 1);
        Check.refused("its own number", Systems::some, Check.INDEX, y -> y.addKey(333, 3));
        Check.refused("its own number, the first key", MasterPins::new, Check.INDEX, y -> y.addKey(333, 0));
    }

    private static void keysAbove() {
        Check.sentence(KEYS, "The keys above a key are its master, the master of that, and so on.");
        MasterPins x = Systems.full();
        for (int key = 0; key < 16; key++) {
            Check.same("keys above key " + key, x.key(key, 3), key);
            Check.same("keys below key " + key, x.key(key, 4), 15 - key);
        }
        MasterPins tree = Systems.withKeys(3, 5, 0);
        tree.addKey(1, 0);
        tree.addKey(2, 0);
        tree.addKey(3, 1);
        tree.addKey(4, NONE);
        int[] above = {0, 1, 1, 2, 0};
        int[] below = {3, 1, 0, 0, 0};
        for (int key = 0; key < 5; key++) {
            Check.same("in a tree, above key " + key, tree.key(key, 3), above[key]);
            Check.same("in a tree, below key " + key, tree.key(key, 4), below[key]);
        }
    }

    private static void noCode() {
        Check.sentence(KEYS, "1 it is no code (negative, too many digits, or a cut that is not below the number of depths)");
        MasterPins x = new MasterPins();
        int[] negative = {-1, -123, -444, -1000, Integer.MIN_VALUE, Integer.MIN_VALUE + 1};
        int[] tooMany = {1000, 1111, 4444, 10000, 100000, 1000000000, 2000000000, Integer.MAX_VALUE};
        int[] notBelow = {5, 50, 500, 555, 445, 454, 544, 9, 90, 900, 999};
        for (int[] codes : new int[][] {negative, tooMany, notBelow}) {
            for (int code : codes) {
                reasonIs(x, code, 1);
            }
        }
        reasonIs(x, 0, 0);
        reasonIs(x, 444, 0);
    }

    /** Keys 040, 222 and 004; steps of 1, three different cuts, differences in all chambers. */
    private static MasterPins withStrictRules() {
        MasterPins x = Systems.withKeys(3, 5, 40, 222, 4);
        x.setRule(0, 1);
        x.setRule(1, 3);
        x.setRule(2, 3);
        return x;
    }

    private static void reasonsInOrder() {
        Check.sentence(KEYS, "A code cannot be given to a key, or to a new one, for the first reason that applies");
        MasterPins x = withStrictRules();
        int[] firstReason1 = {905, 555, 45, 1040, 1222, -222};
        int[] firstReason2 = {40, 404, 4, 20, 131};
        int[] firstReason3 = {222, 221, 343, 0};
        int[] firstReason4 = {123, 12, 321};
        int[][] codes = {firstReason1, firstReason2, firstReason3, firstReason4};
        for (int reason = 1; reason <= 4; reason++) {
            for (int code : codes[reason - 1]) {
                reasonIs(x, code, reason);
                Check.refused("new key with " + code, EdgesOfTerms::withStrictRules, Check.ARGUMENT,
                        y -> y.addKey(code, NONE));
            }
        }
        Check.same("for a key too: 1", x.reason(1, 225), 1);
        Check.same("for a key too: 2, though its own", x.reason(0, 40), 2);
        Check.same("for a key too: 3, though its own", x.reason(1, 222), 3);
        Check.same("for a key too: 4", x.reason(2, 123), 4);
        Check.same("for the other key not", x.reason(1, 123), 0);
    }

    private static void aStepTooGreat() {
        Check.sentence(KEYS, "2 a step is greater than the rule allows");
        MasterPins x = Systems.withRules(4, 6, 3, 1, 1);
        int[] tooGreat = {4, 40, 400, 4000, 3041, 5155, 1511, 1115};
        for (int code : tooGreat) {
            reasonIs(x, code, 2);
        }
        int[] fine = {3, 30, 300, 3000, 3003, 5255, 2522, 2225, 25, 3035};
        for (int code : fine) {
            reasonIs(x, code, 0);
        }
    }

    private static void tooLittleVariety() {
        Check.sentence(KEYS, "3 it has too little variety");
        MasterPins x = Systems.withRules(2, 2, 5, 2, 1);
        reasonIs(x, 0, 3);
        reasonIs(x, 11, 3);
        reasonIs(x, 1, 0);
        reasonIs(x, 10, 0);
        x.setRule(1, 3);
        reasonIs(x, 1, 3);
        x.setRule(1, 1);
        reasonIs(x, 0, 0);
    }

    private static void lostKeysCount() {
        Check.sentence(KEYS, "4 it differs from the code of another key, lost or not, in too few chambers");
        MasterPins x = Systems.withKeys(3, 5, 123, 444);
        reasonIs(x, 123, 4);
        x.lose(0);
        reasonIs(x, 123, 4);
        Check.same("the code of a lost key for another", x.reason(1, 123), 4);
        Check.same("its own code", x.reason(0, 123), 0);
        Check.same("the code of another for a lost key", x.reason(0, 444), 4);
    }

    private static void keysStay() {
        Check.sentence(KEYS, "(When rules are set, keys that are there stay as they are.)");
        MasterPins x = Systems.full();
        for (int rule = 0; rule <= 2; rule++) {
            x.setRule(rule, rule == 0 ? 0 : 4);
            MasterPins before = Systems.full();
            Check.same("keys", x.whole(5), 16);
            for (int key = 0; key < 16; key++) {
                for (int what = 0; what <= 6; what++) {
                    Check.same("key " + key + ", value " + what, x.key(key, what), before.key(key, what));
                }
            }
        }
        Check.same("no code can be given then", x.freeCodes(), 0);
    }

    // ---- doors

    private static void mostDoors() {
        Check.sentence(DOORS, "There are at most 12 doors, numbered from 0.");
        MasterPins x = Systems.withKeys(3, 5, 123);
        Check.same("no doors", x.whole(6), 0);
        Check.refused("door 0 of none", () -> Systems.withKeys(3, 5, 123), Check.INDEX, y -> y.door(0, 0));
        for (int door = 0; door < 12; door++) {
            Check.same("number of a door", x.addDoor(0), door);
            Check.same("doors then", x.whole(6), door + 1);
        }
        Check.same("the last door", x.door(11, 1), 3);
        Check.refused("door 12", Systems::full, Check.INDEX, y -> y.door(12, 0));
        Check.refused("the 13th door", Systems::full, Check.STATE, y -> y.addDoor(0));
    }

    private static void pinsAreDepths() {
        Check.sentence(DOORS, "A door has an owner, which is a key, and a cylinder, which has a set of pins for each chamber: pins are depths.");
        MasterPins x = Systems.withKeys(4, 6, 0, 1111, 2222, 3333, 4444, 5555);
        x.addDoor(0);
        for (int key = 0; key < 6; key++) {
            Check.same("pins that are added of key " + key, x.pin(0, key), key == 0 ? 0 : 4);
            for (int chamber = 0; chamber < 4; chamber++) {
                Check.same("set of chamber " + chamber, x.pins(0, chamber), (2 << key) - 1);
            }
        }
        Check.same("a pin is there once", x.pin(0, 5), 0);
        Check.same("all pins", x.door(0, 1), 24);
        Check.same("owner", x.door(0, 0), 0);
    }

    private static void opens() {
        Check.sentence(DOORS, "A code opens a door if each of its cuts is among the pins of its chamber.");
        MasterPins x = Systems.withKeys(4, 6, 123, 5123, 523, 153, 125, 1230, 3210);
        x.addDoor(0);
        Check.same("the owner alone", x.door(0, 2), 1);
        for (int key = 1; key < 7; key++) {
            Check.same("one chamber, or the order, is another one: key " + key, x.key(key, 5), 0);
        }
        x.pin(0, 1);
        Check.same("with the pin 5 of chamber 0", x.door(0, 2), 1 | 1 << 1);
        x.pin(0, 4);
        Check.same("and that of chamber 3", x.door(0, 2), 1 | 1 << 1 | 1 << 4);
        Check.same("all keys", Systems.full().door(11, 2), ALL_KEYS);
        Check.same("all doors", Systems.full().key(15, 5), ALL_DOORS);
    }

    private static void rightKeys() {
        Check.sentence(DOORS, "The right keys of a door are its owner and the keys above it, except those that are lost.");
        MasterPins x = Systems.withKeys(3, 5, 0);
        x.addKey(1, 0);
        x.addKey(2, 1);
        x.addKey(3, 1);
        x.addKey(4, NONE);
        x.addDoor(2);
        Check.same("owner and keys above", x.door(0, 3), 0b00111);
        x.lose(1);
        Check.same("a lost key between", x.door(0, 3), 0b00101);
        x.lose(2);
        Check.same("a lost owner", x.door(0, 3), 0b00001);
        x.lose(0);
        Check.same("all lost", x.door(0, 3), 0);
        x.find(2);
        Check.same("the owner is found", x.door(0, 3), 0b00100);
        x.setOwner(0, 0);
        Check.same("a lost owner without master", x.door(0, 3), 0);
        x.find(0);
        Check.same("not the keys below", x.door(0, 3), 0b00001);
        x.setOwner(0, 4);
        Check.same("the last key", x.door(0, 3), 0b10000);
        Check.same("16 keys", Systems.full().door(0, 3), ALL_KEYS);
        Check.same("16 lost keys", Systems.allLost().door(0, 3), 0);
    }

    private static void fitting() {
        Check.sentence(DOORS, "To fit a door means: the pins of each chamber become the cuts of its right keys there.");
        MasterPins x = Systems.rich();
        x.fit(0);
        int[] due = {1 << 1, 1 << 2 | 1 << 4, 1 << 3 | 1 << 4};
        for (int chamber = 0; chamber < 3; chamber++) {
            Check.same("without the lost key's cuts, chamber " + chamber, x.pins(0, chamber), due[chamber]);
        }
        x.fit(1);
        for (int chamber = 0; chamber < 3; chamber++) {
            Check.same("without the pins that were added, chamber " + chamber, x.pins(1, chamber), due[chamber]);
        }
        MasterPins full = Systems.allLost();
        full.find(0);
        full.fit(11);
        Check.same("the one key that is left", full.door(11, 1), 4);
        Check.same("the other doors stay", full.door(10, 1), 24);
        for (int key = 1; key < 16; key++) {
            full.find(key);
        }
        Check.same("all 16 keys", full.fit(11), 20);
        Check.same("all pins", full.pins(11, 3), 63);
    }

    private static void pinsThatChange() {
        Check.sentence(DOORS, "The pins that change are those that were there and are not, or are there and were not, together for all chambers.");
        MasterPins x = Systems.withKeys(4, 6, 0, 5555, 5000);
        x.addDoor(0);
        Check.same("none", x.door(0, 7), 0);
        x.recut(0, 1);
        Check.same("one goes, one comes", x.door(0, 7), 2);
        x.recut(0, 1234);
        Check.same("all go, all come", x.door(0, 7), 8);
        x.recut(0, 0);
        x.pin(0, 2);
        Check.same("one goes", x.door(0, 7), 1);
        x.lose(0);
        Check.same("all go", x.door(0, 7), 5);
        x.fit(0);
        x.find(0);
        Check.same("all come", x.door(0, 7), 4);
        Check.same("all 24", Systems.allLost().door(0, 7), 24);
    }

    private static void withoutRightKeys() {
        Check.sentence(DOORS, "(Without right keys, no pins remain, and nothing opens the door.)");
        MasterPins x = Systems.allLost();
        for (int door = 0; door < 12; door++) {
            Check.same("pins that change", x.fit(door), 24);
            Check.same("pins that remain", x.door(door, 1), 0);
            for (int chamber = 0; chamber < 4; chamber++) {
                Check.same("chamber", x.pins(door, chamber), 0);
            }
            Check.same("keys that open it", x.door(door, 2), 0);
            Check.same("codes that open it", x.door(door, 8), 0);
            Check.same("ghosts", x.door(door, 5), 0);
        }
    }

    private static void wrongKeys() {
        Check.sentence(DOORS, "A key is wrong at a door if its code opens the door and it is no right key of it, or the other way round.");
        MasterPins x = Systems.withKeys(3, 5, 0, 111, 222);
        x.addDoor(0);
        Check.same("none", x.door(0, 4), 0);
        x.pin(0, 1);
        Check.same("opens and is no right key", x.door(0, 4), 1);
        x.recut(0, 333);
        Check.same("and a right key that opens not", x.door(0, 4), 2);
        x.fit(0);
        Check.same("fitted", x.door(0, 4), 0);
        x.lose(0);
        Check.same("a lost key that opens", x.door(0, 4), 1);
        Check.same("all 16", Systems.allLost().door(0, 4), 16);
        Check.same("none of 16", Systems.full().door(0, 4), 0);
    }

    private static void ghosts() {
        Check.sentence(DOORS, "A ghost of a door is a code to which the reasons 1 to 3 do not apply, that opens the door, and is that of no key.");
        MasterPins x = Systems.withKeys(3, 5, 0);
        x.addKey(134, 0);
        x.addDoor(1);
        // 0 or 1, 0 or 3, 0 or 4: eight codes open it, two of which are those of keys.
        Check.same("codes that no key has", x.door(0, 5), 6);
        x.addKey(34, NONE);
        Check.same("one of them is a key's", x.door(0, 5), 5);
        x.lose(2);
        Check.same("lost or not", x.door(0, 5), 5);
        x.setRule(2, 4);
        Check.same("reason 4 may apply", x.door(0, 5), 5);
        x.setRule(0, 3);
        // Of 004, 030, 100, 104 and 130 two have a step of 4, and one alone has three different cuts.
        Check.same("reason 2 does not apply", x.door(0, 5), 3);
        x.setRule(1, 3);
        Check.same("reason 3 does not apply", x.door(0, 5), 1);
        Check.same("without keys' codes", Systems.full().door(0, 5), 1296 - 16);
    }

    private static void exposed() {
        Check.sentence(DOORS, "A door is exposed if the code of a lost key opens it.");
        MasterPins x = Systems.withKeys(3, 5, 0, 111);
        x.addDoor(0);
        Check.same("no lost key", x.door(0, 6), 0);
        x.lose(1);
        Check.same("a lost key that opens not", x.door(0, 6), 0);
        x.pin(0, 1);
        Check.same("a lost key that opens and is not its own", x.door(0, 6), 1);
        x.recut(1, 222);
        Check.same("cut anew it opens no more", x.door(0, 6), 0);
        x.lose(0);
        Check.same("its own", x.door(0, 6), 1);
        x.fit(0);
        Check.same("fitted", x.door(0, 6), 0);
        Check.same("by 16 keys once", Systems.allLost().door(11, 6), 1);
    }

    // ---- works

    private static void doorsAre(String what, MasterPins x, int... doors) {
        Check.same(what + ": works", x.whole(11), doors.length);
        for (int index = 0; index < doors.length; index++) {
            Check.same(what + ": place " + index, x.work(index, 0), doors[index]);
        }
        Check.same(what + ": behind the last", x.work(doors.length, 0), NONE);
    }

    private static void works() {
        Check.sentence(WORKS, "The works are the doors of which pins would change if they were fitted now");
        MasterPins x = Systems.withKeys(3, 5, 0);
        doorsAre("no doors", x);
        x.addKey(11, 0);
        x.addKey(1, NONE);
        x.addDoor(1);
        Check.same("the third key opens and is wrong", x.door(0, 4), 1);
        doorsAre("wrong keys make no work", x);
        x.lose(2);
        Check.same("now the door is exposed", x.door(0, 6), 1);
        doorsAre("a lost key that is not its own makes no work", x);
        x.recut(0, 100);
        doorsAre("pins that would change make one", x, 0);
        x.fit(0);
        doorsAre("fitted", x);
        doorsAre("all doors", Systems.allLost(), 0, 1, 2, 3, 4, 5, 6, 7, 8, 9, 10, 11);
        doorsAre("no works of 12 doors", Systems.full());
    }

    /** Keys 000, 111, 222 and 003, and two doors of the first. */
    private static MasterPins twoDoors() {
        MasterPins x = Systems.withKeys(3, 5, 0, 111, 222, 3);
        x.addDoor(0);
        x.addDoor(0);
        return x;
    }

    private static void exposedFirst() {
        Check.sentence(WORKS, "exposed ones first");
        MasterPins x = twoDoors();
        x.pin(0, 1);
        x.pin(0, 2);
        x.pin(1, 3);
        doorsAre("none is exposed", x, 0, 1);
        x.lose(3);
        Check.same("wrong keys of door 0", x.door(0, 4), 2);
        Check.same("wrong keys of door 1", x.door(1, 4), 1);
        doorsAre("before more wrong keys", x, 1, 0);
        MasterPins many = Systems.withKeys(3, 5, 0, 111, 222, 444, 3);
        many.addDoor(0);
        many.addDoor(0);
        many.pin(0, 1);
        many.pin(0, 2);
        many.pin(0, 3);
        many.pin(1, 4);
        many.lose(4);
        Check.same("many wrong keys of door 0", many.door(0, 4), 3);
        doorsAre("before many more wrong keys", many, 1, 0);
        MasterPins fewer = twoDoors();
        fewer.pin(0, 3);
        fewer.pin(1, 1);
        doorsAre("fewer pins first", fewer, 0, 1);
        fewer.lose(1);
        doorsAre("before fewer pins and lower numbers", fewer, 1, 0);
    }

    private static void moreWrongKeys() {
        Check.sentence(WORKS, "then those with more wrong keys");
        MasterPins x = twoDoors();
        x.pin(0, 1);
        x.pin(1, 1);
        x.pin(1, 2);
        Check.same("wrong keys of door 0", x.door(0, 4), 1);
        Check.same("wrong keys of door 1", x.door(1, 4), 2);
        doorsAre("before fewer pins and lower numbers", x, 1, 0);
        MasterPins full = Systems.full();
        for (int key = 1; key < 16; key++) {
            full.lose(key);
        }
        full.fit(4);
        full.find(15);
        full.setOwner(7, 0);
        // Door 7 has one right key, the others but door 4 have two: the 16 keys open them all.
        Check.same("15 wrong keys", full.door(7, 4), 15);
        Check.same("14 wrong keys", full.door(0, 4), 14);
        doorsAre("by one more", full, 7, 0, 1, 2, 3, 5, 6, 8, 9, 10, 11, 4);
    }

    private static void fewerPins() {
        Check.sentence(WORKS, "then those with fewer pins that change");
        MasterPins x = twoDoors();
        x.pin(0, 1);
        x.pin(1, 3);
        Check.same("wrong keys of door 0", x.door(0, 4), 1);
        Check.same("wrong keys of door 1", x.door(1, 4), 1);
        Check.same("pins of door 0", x.door(0, 7), 3);
        Check.same("pins of door 1", x.door(1, 7), 1);
        doorsAre("before lower numbers", x, 1, 0);
        MasterPins most = Systems.withKeys(4, 6, 0, 1111, 2222, 3333, 4444, 5555, 5432);
        most.addDoor(0);
        most.addDoor(0);
        for (int key = 1; key < 6; key++) {
            most.pin(0, key);
            most.pin(1, key);
        }
        most.lose(0);
        most.fit(0);
        most.find(0);
        most.setOwner(1, 6);
        most.recut(6, 5431);
        Check.same("few pins", most.door(0, 7), 4);
        Check.same("many pins", most.door(1, 7), 20);
        doorsAre("many wrong keys before few pins", most, 1, 0);
    }

    private static void byNumbers() {
        Check.sentence(WORKS, "then by numbers");
        MasterPins x = Systems.withKeys(3, 5, 0, 111);
        for (int door = 0; door < 12; door++) {
            x.addDoor(0);
        }
        x.recut(0, 1);
        doorsAre("twelve alike", x, 0, 1, 2, 3, 4, 5, 6, 7, 8, 9, 10, 11);
        x.fit(0);
        x.fit(6);
        doorsAre("ten alike", x, 1, 2, 3, 4, 5, 7, 8, 9, 10, 11);
        x.setOwner(0, 1);
        Check.same("wrong keys of a door with another owner", x.door(0, 4), 2);
        doorsAre("the first in front", x, 0, 1, 2, 3, 4, 5, 7, 8, 9, 10, 11);
    }
}
