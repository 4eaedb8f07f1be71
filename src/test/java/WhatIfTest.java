/** Promises 19 to 23: questions that change nothing. */
final class WhatIfTest {
    private WhatIfTest() {
    }

    public static void main(String[] args) {
        reasonByForm();
        reasonFirst();
        reasonByDifference();
        freeCodes();
        betterCode();
        betterCodeTies();
        betterCodeNone();
        pinsIfTurned();
        pinsIfCut();
        nothingChanges();
        Check.finish("WhatIfTest");
    }

    private static void reasonByForm() {
        MasterPins x = new MasterPins();
        int[] noCodes = {-1, Integer.MIN_VALUE, 5, 50, 500, 1000, 1123, Integer.MAX_VALUE};
        for (int code : noCodes) {
            Check.same("19: no code " + code, x.reason(-1, code), 1);
        }
        int[] fine = {0, 4, 40, 400, 444, 404};
        for (int code : fine) {
            Check.same("19: code " + code, x.reason(-1, code), 0);
        }
        x.begin(4, 6);
        Check.same("19: four chambers", x.reason(-1, 5050), 0);
        Check.same("19: five digits", x.reason(-1, 10000), 1);
        x.setRule(0, 4);
        Check.same("19: step of 5", x.reason(-1, 5050), 2);
        Check.same("19: step of the last chambers", x.reason(-1, 5), 2);
        Check.same("19: step of 4", x.reason(-1, 1515), 0);
        x.setRule(0, 0);
        Check.same("19: no step", x.reason(-1, 3333), 0);
        Check.same("19: step of 1 then", x.reason(-1, 3332), 2);
    }

    private static void reasonFirst() {
        MasterPins x = new MasterPins();
        x.addKey(223, -1);
        x.addKey(444, -1);
        x.setRule(0, 1);
        x.setRule(1, 3);
        Check.same("19: 1 before 2", x.reason(-1, 915), 1);
        Check.same("19: 2 before 3", x.reason(-1, 242), 2);
        Check.same("19: 3 before 4", x.reason(-1, 444), 3);
        Check.same("19: 3 before 4 again", x.reason(-1, 223), 3);
        x.setRule(1, 2);
        Check.same("19: 4 then", x.reason(-1, 223), 4);
        Check.same("19: fits", x.reason(-1, 123), 0);
        x.setRule(2, 2);
        Check.same("19: 4 with the other difference", x.reason(-1, 123), 4);
        Check.refused("19: no key", x, Check.INDEX, () -> x.reason(2, 123));
        Check.refused("19: key -2", x, Check.INDEX, () -> x.reason(-2, 123));
        Check.refused("19: no key of a new object", new MasterPins(), Check.INDEX,
                () -> new MasterPins().reason(0, 0));
    }

    private static void reasonByDifference() {
        MasterPins x = new MasterPins();
        x.addKey(123, -1);
        x.addKey(234, 0);
        Check.same("19: its own code", x.reason(0, 123), 0);
        Check.same("19: the code of another", x.reason(0, 234), 4);
        x.setRule(2, 3);
        Check.same("19: differs in three", x.reason(0, 300), 0);
        Check.same("19: its own does not count", x.reason(0, 120), 0);
        Check.same("19: for a new one it does", x.reason(-1, 120), 4);
        Check.same("19: equal to another in one", x.reason(0, 230), 4);
        x.lose(1);
        Check.same("19: lost keys count", x.reason(0, 230), 4);
    }

    private static void freeCodes() {
        MasterPins x = new MasterPins();
        Check.same("20: all codes", x.freeCodes(), 125);
        x.addKey(123, -1);
        Check.same("20: but one", x.freeCodes(), 124);
        x.setRule(2, 2);
        Check.same("20: but those next to it", x.freeCodes(), 125 - 1 - 3 * 4);
        x.setRule(2, 1);
        x.setRule(0, 0);
        Check.same("20: no step", x.freeCodes(), 5);
        x.setRule(1, 2);
        Check.same("20: none", x.freeCodes(), 0);
        x.begin(4, 6);
        x.setRule(1, 1);
        x.setRule(0, 5);
        Check.same("20: the largest system", x.freeCodes(), 1296);
        x.setRule(1, 4);
        Check.same("20: four different cuts", x.freeCodes(), 6 * 5 * 4 * 3);
        x.begin(2, 2);
        x.setRule(1, 1);
        Check.same("20: the smallest system", x.freeCodes(), 4);
        x.begin(2, 3);
        Check.same("20: with other depths alone", x.freeCodes(), 9);
        x.begin(3, 3);
        Check.same("20: with other chambers alone", x.freeCodes(), 27);
        x.undo();
        Check.same("20: after undo", x.freeCodes(), 9);
        MasterPins full = new MasterPins();
        for (int code = 0; code < 16; code++) {
            full.addKey(code / 4 * 100 + code % 4, -1);
        }
        Check.same("20: also with 16 keys", full.freeCodes(), 109);
    }

    private static void betterCode() {
        MasterPins x = new MasterPins();
        x.addKey(222, -1);
        Check.same("21: the lowest of the nearest", x.betterCode(0), 122);
        x.addKey(122, 0);
        Check.same("21: that can be given", x.betterCode(0), 212);
        x.addDoor(0);
        x.addDoor(1);
        Check.same("21: right key of both doors", x.betterCode(0), 212);
        x.setOwner(0, 1);
        x.setOwner(1, 0);
        // Key 1 is no right key of door 1, which 222 and 122 open.
        Check.same("21: of the key below", x.betterCode(1), 22);
        x.addKey(22, 1);
        Check.same("21: with another key", x.betterCode(1), 112);
        x.addKey(112, 2);
        x.addDoor(3);
        x.lose(0);
        // 212 opens the last door, of which the key was a right one until it was lost.
        Check.same("21: a lost key is right nowhere", x.betterCode(0), 221);
        x.find(0);
        Check.same("21: found again it is right there", x.betterCode(0), 212);
        Check.refused("21: no key", x, Check.INDEX, () -> x.betterCode(5));
        Check.refused("21: NONE", x, Check.INDEX, () -> x.betterCode(-1));
    }

    private static void betterCodeTies() {
        MasterPins x = new MasterPins();
        x.begin(2, 6);
        x.addKey(33, -1);
        x.addKey(23, -1);
        x.addKey(32, -1);
        Check.same("21: lowest of the same sum", x.betterCode(0), 34);
        x.addKey(34, -1);
        x.addKey(43, -1);
        Check.same("21: then a greater sum", x.betterCode(0), 13);
        x.setRule(2, 2);
        // Both digits have to be 0, 1 or 5: 11, 15, 51 and 55 have the least sum.
        Check.same("21: two chambers from all others", x.betterCode(0), 11);
        x.setRule(2, 1);
        int[] nearer = {13, 31, 35, 53};
        for (int code : nearer) {
            x.addKey(code, -1);
        }
        // 03 differs by 3 in one chamber, 22 by 2 in two chambers.
        Check.same("21: one chamber before a smaller sum", x.betterCode(0), 3);
    }

    private static void betterCodeNone() {
        MasterPins x = new MasterPins();
        x.addKey(1, -1);
        Check.same("21: the code of zeros alone", x.betterCode(0), 0);
        x.begin(2, 2);
        x.addKey(0, -1);
        x.addKey(1, -1);
        x.addKey(10, -1);
        Check.same("21: the only one left", x.betterCode(0), 11);
        x.addKey(11, -1);
        Check.same("21: none", x.betterCode(0), -1);
        x.undo();
        x.addDoor(1);
        x.pin(0, 2);
        Check.same("21: would open a door", x.betterCode(0), -1);
        x.setOwner(0, 0);
        Check.same("21: of which it is a right key", x.betterCode(0), 11);
        x.lose(0);
        Check.same("21: but not while it is lost", x.betterCode(0), -1);
    }

    private static void pinsIfTurned() {
        MasterPins x = new MasterPins();
        x.addKey(123, -1);
        x.addKey(144, 0);
        x.addDoor(0);
        x.addDoor(1);
        Check.same("22: the top key", x.pinsIfTurned(0), 3 + 2);
        Check.same("22: the lower key", x.pinsIfTurned(1), 2);
        x.pin(0, 1);
        Check.same("22: from how they are now", x.pinsIfTurned(1), 2 + 2);
        x.lose(0);
        Check.same("22: found again", x.pinsIfTurned(0), 2);
        Check.same("22: all lost", x.pinsIfTurned(1), 5 + 5);
        Check.refused("22: no key", x, Check.INDEX, () -> x.pinsIfTurned(2));
        Check.refused("22: NONE", x, Check.INDEX, () -> x.pinsIfTurned(-1));
    }

    private static void pinsIfCut() {
        MasterPins x = new MasterPins();
        x.addKey(123, -1);
        x.addKey(144, 0);
        x.addDoor(0);
        x.addDoor(1);
        Check.same("23: its own code", x.pinsIfCut(0, 123), 0);
        Check.same("23: one chamber", x.pinsIfCut(0, 124), 2 + 1);
        Check.same("23: the lower key", x.pinsIfCut(1, 244), 1);
        x.pin(0, 1);
        Check.same("23: its own code from how they are now", x.pinsIfCut(0, 123), 2);
        x.lose(1);
        Check.same("23: a lost key changes nothing more", x.pinsIfCut(1, 0), 2 + 2);
        Check.same("23: the code of another", x.pinsIfCut(0, 144), -1);
        Check.same("23: no code", x.pinsIfCut(0, 523), -1);
        Check.same("23: negative code", x.pinsIfCut(0, -1), -1);
        x.setRule(0, 0);
        Check.same("23: its own code that breaks a rule", x.pinsIfCut(0, 123), -1);
        Check.refused("23: no key", x, Check.INDEX, () -> x.pinsIfCut(2, 0));
        Check.refused("23: key before code", x, Check.INDEX, () -> x.pinsIfCut(-1, 999));
    }

    private static void nothingChanges() {
        MasterPins x = new MasterPins();
        x.addKey(123, -1);
        x.addKey(144, 0);
        x.addDoor(1);
        long before = x.digest();
        x.reason(0, 200);
        x.freeCodes();
        x.betterCode(1);
        x.pinsIfTurned(0);
        x.pinsIfCut(1, 0);
        Check.same("19 to 23: the state stays", x.digest(), before);
        Check.same("19 to 23: nothing is saved", x.undo(), 2);
    }
}
