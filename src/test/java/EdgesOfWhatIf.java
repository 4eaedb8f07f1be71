/** The edges of promises 19 to 23: questions that change nothing. */
final class EdgesOfWhatIf {
    private static final int NONE = MasterPins.NONE;

    private EdgesOfWhatIf() {
    }

    static void run() {
        tellsWhy();
        reasonKey();
        reasonCode();
        reasonAnswer();
        reasonNoKey();
        countsFreeCodes();
        freeCodesAnswer();
        bestOtherCode();
        betterCanBeGiven();
        betterIsAnother();
        betterOpensNoOther();
        betterOfALostKey();
        betterKey();
        fewestChambers();
        leastSum();
        lowestOne();
        noBetterCode();
        betterNoKey();
        pinsIfLostOrFound();
        turnedKey();
        turnedAnswer();
        turnedNoKey();
        pinsIfCutAnew();
        cutKey();
        cutCode();
        cutAnswer();
        cutNoKey();
    }

    private static void says(int promise, String words) {
        Check.sentence("Promise " + promise, words);
    }

    private static void reasonIs(MasterPins x, int key, int code, int due) {
        Check.same("reason(" + key + ", " + code + ")", x.reason(key, code), due);
    }

    // ---- promise 19

    private static void tellsWhy() {
        says(19, "Tells why a code cannot be given to a key.");
        Check.changesNothing("reason 0", Systems::rich, x -> x.reason(0, 333));
        Check.changesNothing("reason 1", Systems::rich, x -> x.reason(0, 500));
        Check.changesNothing("reason 4", Systems::rich, x -> x.reason(NONE, 123));
        MasterPins x = Systems.rich();
        x.setRule(2, 3);
        // Of 123, 144 and 401 (lost).
        reasonIs(x, 0, 322, 0);
        reasonIs(x, 0, 320, 0);
        reasonIs(x, 0, 302, 4);
        reasonIs(x, 1, 302, 4);
        reasonIs(x, 2, 302, 0);
        reasonIs(x, 2, 322, 4);
        reasonIs(x, NONE, 322, 4);
        reasonIs(x, NONE, 230, 0);
    }

    private static void reasonKey() {
        says(19, "`key`: number of a key, or NONE for a new one");
        MasterPins x = Systems.full();
        for (int key = 0; key < 16; key++) {
            int own = x.key(key, 0);
            reasonIs(x, key, own, 0);
            reasonIs(x, key, x.key(15 - key, 0), 4);
            reasonIs(x, NONE, own, 4);
            reasonIs(x, key, 5432, 0);
        }
        reasonIs(x, NONE, 5432, 0);
        reasonIs(new MasterPins(), NONE, 0, 0);
        Check.refusedFor("key", Systems.NO_KEY_NOR_NONE, Systems::rich, Check.INDEX, (y, key) -> y.reason(key, 333));
    }

    private static void reasonCode() {
        says(19, "`code`: any number");
        MasterPins x = Systems.rich();
        for (int key = NONE; key <= 2; key++) {
            reasonIs(x, key, Integer.MIN_VALUE, 1);
            reasonIs(x, key, -1, 1);
            reasonIs(x, key, 0, 0);
            reasonIs(x, key, 444, 0);
            reasonIs(x, key, 445, 1);
            reasonIs(x, key, 999, 1);
            reasonIs(x, key, 1000, 1);
            reasonIs(x, key, Integer.MAX_VALUE, 1);
        }
    }

    private static void reasonAnswer() {
        says(19, "Returns the reason, 1 to 4; 0 if it can be given.");
        MasterPins x = Systems.withKeys(2, 4, 12, 30);
        reasonIs(x, NONE, 31, 0);
        reasonIs(x, NONE, 41, 1);
        x.setRule(0, 1);
        reasonIs(x, NONE, 31, 2);
        x.setRule(0, 2);
        reasonIs(x, NONE, 31, 0);
        x.setRule(1, 2);
        reasonIs(x, NONE, 22, 3);
        x.setRule(1, 1);
        reasonIs(x, NONE, 22, 0);
        reasonIs(x, NONE, 12, 4);
        reasonIs(x, 0, 12, 0);
        reasonIs(x, 0, 30, 2);
        x.setRule(0, 5);
        reasonIs(x, 0, 30, 4);
    }

    private static void reasonNoKey() {
        says(19, "Throws `IndexOutOfBoundsException` if key is neither NONE nor a key");
        Check.refused("without keys", MasterPins::new, Check.INDEX, x -> x.reason(0, 0));
        Check.refused("the number of keys", Systems::rich, Check.INDEX, x -> x.reason(3, 333));
        Check.refused("below NONE", Systems::rich, Check.INDEX, x -> x.reason(-2, 333));
        Check.refused("key 16", Systems::full, Check.INDEX, x -> x.reason(16, 5432));
        Check.refused("before its code", Systems::rich, Check.INDEX, x -> x.reason(3, 500));
    }

    // ---- promise 20

    private static void countsFreeCodes() {
        says(20, "Counts the codes that could be given to a new key (also if there are 16 keys).");
        Check.changesNothing("freeCodes", Systems::rich, MasterPins::freeCodes);
        Check.same("with 16 keys", Systems.full().freeCodes(), 1296 - 16);
        Check.same("with 16 lost keys", Systems.allLost().freeCodes(), 1296 - 16);
        MasterPins x = Systems.full();
        x.setRule(2, 4);
        Check.same("the keys have all cuts of each chamber", x.freeCodes(), 0);
    }

    private static void freeCodesAnswer() {
        says(20, "Returns the number.");
        Check.same("the smallest system", Systems.of(2, 2).freeCodes(), 4);
        Check.same("a new object", new MasterPins().freeCodes(), 125);
        Check.same("the largest system", Systems.of(4, 6).freeCodes(), 1296);
        Check.same("without steps", Systems.withRules(4, 6, 0, 1, 1).freeCodes(), 6);
        Check.same("with steps of 4 at the most", Systems.withRules(2, 6, 4, 1, 1).freeCodes(), 34);
        Check.same("two different cuts", Systems.withRules(4, 6, 5, 2, 1).freeCodes(), 1290);
        Check.same("four different cuts", Systems.withRules(4, 6, 5, 4, 1).freeCodes(), 360);
        Check.same("none", Systems.withRules(4, 6, 0, 2, 1).freeCodes(), 0);
        int[] due = {1295, 1295 - 4 * 5, 1295 - 4 * 5 - 6 * 25, 5 * 5 * 5 * 5};
        for (int least = 1; least <= 4; least++) {
            MasterPins x = Systems.withRules(4, 6, 5, 1, least);
            x.addKey(123, NONE);
            Check.same("apart from one key in " + least, x.freeCodes(), due[least - 1]);
        }
        MasterPins asked = Systems.of(3, 5);
        Check.same("before any change", asked.freeCodes(), 125);
        asked.begin(2, 5);
        Check.same("other chambers", asked.freeCodes(), 25);
        asked.begin(2, 3);
        Check.same("other depths", asked.freeCodes(), 9);
        asked.setRule(0, 1);
        Check.same("another step", asked.freeCodes(), 7);
        asked.setRule(1, 2);
        Check.same("another variety", asked.freeCodes(), 4);
        asked.undo();
        Check.same("the variety undone", asked.freeCodes(), 7);
        asked.undo();
        Check.same("the step undone", asked.freeCodes(), 9);
        asked.undo();
        Check.same("the depths undone", asked.freeCodes(), 25);
        asked.undo();
        Check.same("the chambers undone", asked.freeCodes(), 125);
        MasterPins all = Systems.withKeys(2, 2, 0, 1, 10);
        Check.same("the last one", all.freeCodes(), 1);
        all.addKey(11, NONE);
        Check.same("all given", all.freeCodes(), 0);
        all.recut(0, 0);
        Check.same("all given still", all.freeCodes(), 0);
        all.undo();
        all.undo();
        Check.same("the last one again", all.freeCodes(), 1);
    }

    // ---- promise 21

    private static void bestOtherCode() {
        says(21, "Returns the best other code for a key: one that can be given to it, is not its code, and opens no door of which "
                + "the key is no right key (a lost key is a right key of no door).");
        Check.changesNothing("betterCode", Systems::rich, x -> x.betterCode(0));
        Check.same("the nearest one", Systems.withKeys(3, 5, 123).betterCode(0), 23);
        MasterPins x = Systems.withKeys(3, 5, 123, 33);
        x.addDoor(0);
        x.pin(0, 1);
        Check.same("of its own door", x.betterCode(0), 23);
        x.setOwner(0, 1);
        Check.same("of no other door", x.betterCode(0), 113);
        x.addKey(113, NONE);
        Check.same("that is free", x.betterCode(0), 122);
    }

    private static void betterCanBeGiven() {
        says(21, "one that can be given to it");
        MasterPins x = Systems.withKeys(3, 5, 222);
        Check.same("reason 1 is far", x.betterCode(0), 122);
        x.setRule(0, 0);
        Check.same("reason 2", x.betterCode(0), 111);
        x.setRule(0, 5);
        x.setRule(1, 3);
        Check.same("reason 3", x.betterCode(0), 123);
        x.setRule(1, 1);
        x.addKey(122, NONE);
        Check.same("reason 4", x.betterCode(0), 212);
        x.setRule(2, 3);
        Check.same("reason 4, apart in all chambers", x.betterCode(0), 211);
        x.lose(1);
        Check.same("reason 4 of a lost key", x.betterCode(0), 211);
        MasterPins edge = Systems.withKeys(2, 2, 11);
        Check.same("reason 1 at the edge", edge.betterCode(0), 1);
        MasterPins zero = Systems.withKeys(2, 2, 0);
        Check.same("reason 1 at the other edge", zero.betterCode(0), 1);
    }

    private static void betterIsAnother() {
        says(21, "is not its code");
        int[] codes = {0, 1, 10, 11};
        int[] due = {1, 0, 0, 1};
        for (int index = 0; index < codes.length; index++) {
            Check.same("other than " + codes[index], Systems.withKeys(2, 2, codes[index]).betterCode(0), due[index]);
        }
    }

    private static void betterOpensNoOther() {
        says(21, "opens no door of which the key is no right key");
        MasterPins x = Systems.withKeys(2, 4, 0, 1, 11);
        x.addDoor(1);
        x.pin(0, 2);
        // Door 0 has the pins 0 1 and 1, so that 01 and 11 alone open it.
        Check.same("a door that the code opens not", x.betterCode(0), 10);
        x.addKey(10, NONE);
        x.addDoor(3);
        x.recut(3, 33);
        Check.same("a door that 10 opens", x.betterCode(0), 2);
        x.setOwner(1, 0);
        Check.same("its own door", x.betterCode(0), 10);
        x.addKey(22, 0);
        x.setOwner(1, 4);
        Check.same("a door of a key below it", x.betterCode(0), 10);
        x.setOwner(1, 1);
        Check.same("a door of another again", x.betterCode(0), 2);
        MasterPins own = Systems.withKeys(2, 4, 0);
        own.addDoor(0);
        Check.same("it need not open its own door", own.betterCode(0), 1);
    }

    private static void betterOfALostKey() {
        says(21, "(a lost key is a right key of no door)");
        MasterPins x = Systems.withKeys(2, 4, 0, 1);
        x.addDoor(0);
        x.pin(0, 1);
        x.recut(1, 33);
        Check.same("its own door", x.betterCode(0), 1);
        x.lose(0);
        Check.same("no longer its own", x.betterCode(0), 10);
        x.find(0);
        Check.same("its own again", x.betterCode(0), 1);
    }

    private static void betterKey() {
        says(21, "`key`: number of a key");
        MasterPins x = Systems.full();
        Check.same("key 0", x.betterCode(0), 100);
        Check.same("the last key", x.betterCode(15), 51);
        Check.refusedFor("key", Systems.NO_KEY, Systems::rich, Check.INDEX, MasterPins::betterCode);
    }

    private static void fewestChambers() {
        says(21, "Returns the one that differs in the fewest chambers");
        MasterPins x = Systems.withKeys(2, 6, 0, 1, 10, 2, 20, 3, 30, 4, 40, 5);
        // 50 differs by 5 in one chamber, 11 by 1 in each of two.
        Check.same("one chamber", x.betterCode(0), 50);
        x.addKey(50, NONE);
        Check.same("two chambers", x.betterCode(0), 11);
        MasterPins four = Systems.withRules(4, 6, 5, 4, 1);
        four.addKey(123, NONE);
        Check.same("one of four", four.betterCode(0), 124);
        four.setRule(1, 1);
        four.setRule(2, 4);
        four.addKey(4550, NONE);
        // In chamber 0 not 4, in 1 and 2 not 5, in 3 not 0.
        Check.same("one of four, apart from another in all", four.betterCode(0), 23);
        MasterPins flat = Systems.withKeys(4, 6, 5, 0);
        flat.setRule(0, 0);
        // 5555 differs by 15 in three chambers, 1111 by 7 in four.
        Check.same("three chambers, by far", flat.betterCode(0), 5555);
    }

    private static void leastSum() {
        says(21, "of several that with the least sum of the sizes of the differences of cuts");
        MasterPins x = Systems.withKeys(2, 6, 33, 23, 32, 34, 43, 13, 31);
        Check.same("up, where down is given", x.betterCode(0), 35);
        x.addKey(35, NONE);
        Check.same("by two in the other chamber", x.betterCode(0), 53);
        x.addKey(53, NONE);
        Check.same("by three", x.betterCode(0), 3);
        MasterPins two = Systems.withRules(2, 6, 5, 1, 2);
        two.addKey(0, NONE);
        two.addKey(11, NONE);
        two.setRule(2, 2);
        two.recut(0, 33);
        // Both digits other than 1, and both other than 3 for two chambers; one chamber is enough.
        Check.same("one chamber, by one", two.betterCode(0), 23);
        MasterPins sums = Systems.withKeys(3, 6, 0);
        sums.setRule(1, 3);
        // Three different cuts take two chambers that change, by 1 and by 2.
        Check.same("the least sum of two chambers", sums.betterCode(0), 12);
        sums.addKey(12, NONE);
        Check.same("the next one of this sum", sums.betterCode(0), 21);
        MasterPins far = Systems.withKeys(4, 6, 0, 1111, 2222, 3333, 4444);
        far.setRule(0, 0);
        Check.same("the farthest one that there is", far.betterCode(0), 5555);
    }

    private static void lowestOne() {
        says(21, "of several the lowest one");
        MasterPins x = Systems.withKeys(2, 6, 33);
        int[] due = {23, 32, 34, 43, 13, 31, 35, 53, 3, 30};
        for (int code : due) {
            Check.same("in order", x.betterCode(0), code);
            x.addKey(code, NONE);
        }
    }

    private static void noBetterCode() {
        says(21, "NONE if there is none");
        MasterPins x = Systems.withKeys(2, 2, 0, 1, 10);
        Check.same("the last one", x.betterCode(0), 11);
        x.addKey(11, NONE);
        for (int key = 0; key < 4; key++) {
            Check.same("all given, key " + key, x.betterCode(key), NONE);
        }
        x.lose(3);
        Check.same("a lost key's code is given too", x.betterCode(0), NONE);
        MasterPins rules = Systems.withKeys(4, 6, 0);
        rules.setRule(1, 4);
        rules.setRule(0, 0);
        Check.same("no code obeys", rules.betterCode(0), NONE);
        MasterPins full = Systems.full();
        full.lose(0);
        Check.same("a lost key, where doors have all pins", full.betterCode(0), NONE);
        full.find(0);
        Check.same("found, it has one", full.betterCode(0), 100);
        full.setRule(2, 4);
        Check.same("too near to the others", full.betterCode(0), NONE);
    }

    private static void betterNoKey() {
        says(21, "Throws `IndexOutOfBoundsException` if there is no such key");
        Check.refused("without keys", MasterPins::new, Check.INDEX, x -> x.betterCode(0));
        Check.refused("NONE", Systems::rich, Check.INDEX, x -> x.betterCode(NONE));
        Check.refused("the number of keys", Systems::rich, Check.INDEX, x -> x.betterCode(3));
        Check.refused("key 16", Systems::full, Check.INDEX, x -> x.betterCode(16));
    }

    // ---- promise 22

    private static void pinsIfLostOrFound() {
        says(22, "Tells how many pins would change, from how they are now, if a key were lost (or found, if it is lost) "
                + "and all doors were fitted then.");
        Check.changesNothing("pinsIfTurned", Systems::rich, x -> x.pinsIfTurned(0));
        Check.changesNothing("pinsIfTurned of a lost key", Systems::rich, x -> x.pinsIfTurned(2));
        for (int key = 0; key <= 2; key++) {
            MasterPins x = Systems.rich();
            int told = x.pinsIfTurned(key);
            if (x.key(key, 2) == 1) {
                x.find(key);
            } else {
                x.lose(key);
            }
            Check.same("as it comes for key " + key, x.fitAll(), told);
        }
        MasterPins x = Systems.rich();
        Check.same("lost, of two doors", x.pinsIfTurned(0), 5 + 5);
        Check.same("found, of the other door alone", x.pinsIfTurned(2), 3);
    }

    private static void turnedKey() {
        says(22, "`key`: number of a key");
        MasterPins x = Systems.full();
        // Keys 1 to 5 alone have their cuts of the chambers 0 and 1; all other cuts are those of several keys.
        for (int key = 0; key < 16; key++) {
            Check.same("key " + key, x.pinsIfTurned(key), key >= 1 && key <= 5 ? 12 * 2 : 0);
        }
        Check.refusedFor("key", Systems.NO_KEY, Systems::rich, Check.INDEX, MasterPins::pinsIfTurned);
    }

    private static void turnedAnswer() {
        says(22, "Returns the number.");
        Check.same("no doors", Systems.withKeys(3, 5, 0).pinsIfTurned(0), 0);
        MasterPins x = Systems.full();
        for (int key = 1; key < 16; key++) {
            x.lose(key);
        }
        Check.same("all pins of 12 doors", x.pinsIfTurned(0), 12 * 24);
        x.find(15);
        x.fitAll();
        Check.same("the one of two that has no cut but the other's", x.pinsIfTurned(0), 12);
        x.fitAll();
        x.lose(0);
        x.fitAll();
        Check.same("found again", x.pinsIfTurned(0), 12);
        x.lose(15);
        Check.same("one for another", x.pinsIfTurned(0), 12 * 2);
        x.fitAll();
        Check.same("four come at each door", x.pinsIfTurned(0), 12 * 4);
        Check.same("none where it is no right key", noRightKey().pinsIfTurned(1), 0);
    }

    private static MasterPins noRightKey() {
        MasterPins x = Systems.withKeys(3, 5, 0, 111);
        x.addDoor(0);
        return x;
    }

    private static void turnedNoKey() {
        says(22, "Throws `IndexOutOfBoundsException` if there is no such key");
        Check.refused("without keys", MasterPins::new, Check.INDEX, x -> x.pinsIfTurned(0));
        Check.refused("NONE", Systems::rich, Check.INDEX, x -> x.pinsIfTurned(NONE));
        Check.refused("the number of keys", Systems::rich, Check.INDEX, x -> x.pinsIfTurned(3));
        Check.refused("key 16", Systems::full, Check.INDEX, x -> x.pinsIfTurned(16));
    }

    // ---- promise 23

    private static void pinsIfCutAnew() {
        says(23, "Tells how many pins would change, from how they are now, if a key were cut anew with a code (perhaps its own), "
                + "and all doors were fitted then.");
        Check.changesNothing("pinsIfCut", Systems::rich, x -> x.pinsIfCut(0, 333));
        Check.changesNothing("pinsIfCut with its own", Systems::rich, x -> x.pinsIfCut(1, 144));
        Check.changesNothing("pinsIfCut with no code", Systems::rich, x -> x.pinsIfCut(1, 500));
        int[] codes = {123, 144, 401, 0, 124, 333, 444};
        for (int key = 0; key <= 2; key++) {
            for (int code : codes) {
                MasterPins x = Systems.rich();
                int told = x.pinsIfCut(key, code);
                if (x.reason(key, code) == 0) {
                    x.recut(key, code);
                    Check.same("as it comes for key " + key + " with " + code, x.fitAll(), told);
                } else {
                    Check.same("as it cannot come for key " + key + " with " + code, told, NONE);
                }
            }
        }
        Check.same("its own, from how they are now", Systems.rich().pinsIfCut(0, 123), 3 + 3);
    }

    private static void cutKey() {
        says(23, "`key`: number of a key");
        MasterPins x = Systems.full();
        for (int key = 0; key < 16; key++) {
            Check.same("its own code, key " + key, x.pinsIfCut(key, x.key(key, 0)), 0);
        }
        Check.same("the last key", x.pinsIfCut(15, 5432), 0);
        x.lose(5);
        Check.same("the last key, where another is lost", x.pinsIfCut(15, 5555), NONE);
        Check.same("the last key, where another is lost", x.pinsIfCut(15, 5432), 12 * 2);
        Check.refusedFor("key", Systems.NO_KEY, Systems::rich, Check.INDEX, (y, key) -> y.pinsIfCut(key, 333));
    }

    private static void cutCode() {
        says(23, "`code`: any number");
        MasterPins x = Systems.rich();
        Check.same("the least code", x.pinsIfCut(0, 0), 2 * (2 + 1 + 3));
        Check.same("the greatest code", x.pinsIfCut(0, 444), 2 * (0 + 2 + 2));
        int[] noCodes = {-1, 5, 500, 999, 1000, Integer.MIN_VALUE, Integer.MAX_VALUE};
        for (int code : noCodes) {
            Check.same("no code " + code, x.pinsIfCut(0, code), NONE);
        }
    }

    private static void cutAnswer() {
        says(23, "Returns the number; NONE if the code cannot be given to the key.");
        Check.same("no doors", Systems.withKeys(3, 5, 0).pinsIfCut(0, 444), 0);
        MasterPins x = Systems.withKeys(4, 6, 0);
        for (int door = 0; door < 12; door++) {
            x.addDoor(0);
        }
        Check.same("four go and four come at each door", x.pinsIfCut(0, 5432), 12 * 8);
        Check.same("one for another at each door", x.pinsIfCut(0, 5), 12 * 2);
        x.lose(0);
        Check.same("a lost key: four go at each door", x.pinsIfCut(0, 5432), 12 * 4);
        MasterPins refused = Systems.withKeys(3, 5, 123, 144);
        refused.addDoor(0);
        Check.same("reason 1", refused.pinsIfCut(0, 125), NONE);
        Check.same("reason 4", refused.pinsIfCut(0, 144), NONE);
        refused.setRule(0, 2);
        Check.same("reason 2", refused.pinsIfCut(0, 130), NONE);
        Check.same("reason 2 of its own", refused.pinsIfCut(1, 144), NONE);
        refused.setRule(1, 3);
        Check.same("reason 3", refused.pinsIfCut(0, 122), NONE);
        Check.same("none of these", refused.pinsIfCut(0, 124), 2);
    }

    private static void cutNoKey() {
        says(23, "Throws `IndexOutOfBoundsException` if there is no such key");
        Check.refused("without keys", MasterPins::new, Check.INDEX, x -> x.pinsIfCut(0, 0));
        Check.refused("NONE", Systems::rich, Check.INDEX, x -> x.pinsIfCut(NONE, 333));
        Check.refused("the number of keys", Systems::rich, Check.INDEX, x -> x.pinsIfCut(3, 333));
        Check.refused("key 16", Systems::full, Check.INDEX, x -> x.pinsIfCut(16, 5432));
        Check.refused("before its code", Systems::rich, Check.INDEX, x -> x.pinsIfCut(3, 500));
    }
}
