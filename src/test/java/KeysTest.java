/** Promises 1 to 7: a new object and the keys. */
final class KeysTest {
    private KeysTest() {
    }

    public static void main(String[] args) {
        newObject();
        begin();
        setRule();
        setRuleRefused();
        addKey();
        addKeyByForm();
        addKeyByDifference();
        addKeyRefused();
        recut();
        lose();
        find();
        Check.finish("KeysTest");
    }

    private static void newObject() {
        MasterPins x = new MasterPins();
        int[] due = {3, 5, 5, 1, 1, 0, 0, 0, 0, 0, 0, 0, 0, 0};
        for (int what = 0; what < due.length; what++) {
            Check.same("1: whole(" + what + ")", x.whole(what), due[what]);
        }
        Check.same("1: NONE", MasterPins.NONE, -1);
        Check.same("1: freeCodes", x.freeCodes(), 125);
        Check.refused("1: undo of a new object", x, Check.STATE, x::undo);
    }

    private static void begin() {
        MasterPins x = new MasterPins();
        x.setRule(0, 4);
        x.setRule(1, 2);
        x.setRule(2, 2);
        x.addKey(12, -1);
        x.addDoor(0);
        x.addDoor(0);
        x.lose(0);
        x.type('a');
        Check.same("2: begin answers the doors", x.begin(4, 6), 2);
        Check.same("2: chambers", x.whole(0), 4);
        Check.same("2: depths", x.whole(1), 6);
        Check.same("2: rule 0 stays", x.whole(2), 4);
        Check.same("2: rule 1 stays", x.whole(3), 2);
        Check.same("2: rule 2 stays", x.whole(4), 2);
        Check.same("2: no keys", x.whole(5), 0);
        Check.same("2: no doors", x.whole(6), 0);
        Check.same("2: no lost keys", x.whole(7), 0);
        Check.same("2: the text stays", x.whole(13), 1);
        Check.same("2: a key is not lost from before", x.addKey(12, -1), 0);
        Check.same("2: key 0 is not lost", x.key(0, 2), 0);
        x.undo();
        x.undo();
        Check.same("2: undoable", x.whole(6), 2);
        Check.same("2: undo brings the lost key back", x.key(0, 2), 1);
        Check.same("2: least", x.begin(2, 2), 2);
        Check.same("2: no doors after begin", x.begin(2, 6), 0);
        int[][] wrong = {{1, 5}, {5, 5}, {3, 1}, {3, 7}, {-1, 5}, {3, Integer.MIN_VALUE}, {Integer.MAX_VALUE, 2}};
        for (int[] pair : wrong) {
            Check.refused("2: begin(" + pair[0] + ", " + pair[1] + ")", x, Check.ARGUMENT,
                    () -> x.begin(pair[0], pair[1]));
        }
    }

    private static void setRule() {
        MasterPins x = new MasterPins();
        Check.same("3: rule 0", x.setRule(0, 0), 5);
        Check.same("3: rule 0 again", x.setRule(0, 5), 0);
        Check.same("3: rule 1", x.setRule(1, 4), 1);
        Check.same("3: rule 1 again", x.setRule(1, 1), 4);
        Check.same("3: rule 2", x.setRule(2, 4), 1);
        Check.same("3: rule 2 same value", x.setRule(2, 4), 4);
        Check.same("3: whole", x.whole(4), 4);
        Check.same("3: undo of no change", x.undo(), 3);
        Check.same("3: still 4", x.whole(4), 4);
        Check.same("3: undo", x.undo(), 2);
        Check.same("3: undone", x.whole(4), 1);
        x.addKey(123, -1);
        x.setRule(0, 0);
        Check.same("3: keys stay as they are", x.key(0, 0), 123);
        Check.same("3: though they break the rule", x.reason(0, 123), 2);
    }

    private static void setRuleRefused() {
        MasterPins x = new MasterPins();
        int[][] wrong = {{-1, 1}, {3, 1}, {0, -1}, {0, 6}, {1, 0}, {1, 5}, {2, 0}, {2, 5},
            {Integer.MAX_VALUE, 1}, {Integer.MIN_VALUE, 1}, {1, Integer.MAX_VALUE}};
        for (int[] pair : wrong) {
            Check.refused("3: setRule(" + pair[0] + ", " + pair[1] + ")", x, Check.ARGUMENT,
                    () -> x.setRule(pair[0], pair[1]));
        }
    }

    private static void addKey() {
        MasterPins x = new MasterPins();
        Check.same("4: first key", x.addKey(0, MasterPins.NONE), 0);
        Check.same("4: second key", x.addKey(44, 0), 1);
        Check.same("4: third key", x.addKey(444, 1), 2);
        Check.same("4: code with zeros in front", x.key(1, 0), 44);
        Check.same("4: master", x.key(2, 1), 1);
        Check.same("4: no master", x.key(0, 1), -1);
        Check.same("4: undo", x.undo(), 2);
        Check.same("4: undone", x.whole(5), 2);
        Check.same("4: the code is free again", x.addKey(444, 0), 2);
        Check.same("4: with another master", x.key(2, 1), 0);
    }

    private static void addKeyByForm() {
        MasterPins x = new MasterPins();
        x.begin(2, 4);
        int[] noCodes = {-1, 100, 4, 40, 99, 1000, Integer.MAX_VALUE, Integer.MIN_VALUE};
        for (int code : noCodes) {
            Check.refused("4: addKey of no code " + code, x, Check.ARGUMENT, () -> x.addKey(code, -1));
        }
        x.setRule(0, 1);
        Check.refused("4: step of 2", x, Check.ARGUMENT, () -> x.addKey(13, -1));
        Check.refused("4: step of 2 down", x, Check.ARGUMENT, () -> x.addKey(20, -1));
        Check.same("4: step of 1", x.addKey(12, -1), 0);
        x.setRule(1, 2);
        Check.refused("4: too little variety", x, Check.ARGUMENT, () -> x.addKey(22, -1));
        Check.same("4: variety of 2", x.addKey(21, -1), 1);
        x.setRule(1, 3);
        Check.refused("4: variety that no code has", x, Check.ARGUMENT, () -> x.addKey(23, -1));
    }

    private static void addKeyByDifference() {
        MasterPins x = new MasterPins();
        x.addKey(123, -1);
        Check.refused("4: the same code", x, Check.ARGUMENT, () -> x.addKey(123, -1));
        x.setRule(2, 2);
        Check.refused("4: differs in one chamber", x, Check.ARGUMENT, () -> x.addKey(124, -1));
        x.lose(0);
        Check.refused("4: of a lost key too", x, Check.ARGUMENT, () -> x.addKey(124, -1));
        Check.same("4: differs in two chambers", x.addKey(134, -1), 1);
        x.setRule(2, 4);
        Check.refused("4: more than there are chambers", x, Check.ARGUMENT, () -> x.addKey(0, -1));
    }

    private static void addKeyRefused() {
        MasterPins x = new MasterPins();
        Check.refused("4: master that is none", x, Check.INDEX, () -> x.addKey(0, 0));
        Check.refused("4: master -2", x, Check.INDEX, () -> x.addKey(0, -2));
        Check.refused("4: master before code", x, Check.INDEX, () -> x.addKey(-5, 0));
        for (int code = 0; code < 16; code++) {
            x.addKey(code / 4 * 10 + code % 4, code - 1);
        }
        Check.same("4: 16 keys", x.whole(5), 16);
        Check.refused("4: the 17th key", x, Check.STATE, () -> x.addKey(444, 3));
        Check.refused("4: code before number", x, Check.ARGUMENT, () -> x.addKey(555, 3));
        Check.refused("4: master before number", x, Check.INDEX, () -> x.addKey(444, 16));
        Check.refused("4: master before all", x, Check.INDEX, () -> x.addKey(555, Integer.MAX_VALUE));
    }

    private static void recut() {
        MasterPins x = new MasterPins();
        x.addKey(123, -1);
        x.addKey(234, 0);
        x.addDoor(0);
        Check.same("5: the same code", x.recut(0, 123), 0);
        Check.same("5: one chamber", x.recut(0, 124), 1);
        Check.same("5: three chambers", x.recut(0, 0), 3);
        Check.same("5: code", x.key(0, 0), 0);
        Check.same("5: cylinders stay", x.pins(0, 2), 1 << 3);
        Check.same("5: undo", x.undo(), 3);
        Check.same("5: undone", x.key(0, 0), 124);
        Check.refused("5: no key", x, Check.INDEX, () -> x.recut(2, 444));
        Check.refused("5: NONE", x, Check.INDEX, () -> x.recut(-1, 444));
        Check.refused("5: key before code", x, Check.INDEX, () -> x.recut(2, -1));
        Check.refused("5: no code", x, Check.ARGUMENT, () -> x.recut(0, 500));
        Check.refused("5: the code of another", x, Check.ARGUMENT, () -> x.recut(0, 234));
        x.setRule(0, 0);
        Check.refused("5: its own code that breaks a rule", x, Check.ARGUMENT, () -> x.recut(1, 234));
        Check.same("5: a code that obeys", x.recut(1, 222), 2);
    }

    private static void lose() {
        MasterPins x = new MasterPins();
        x.addKey(123, -1);
        x.addKey(144, 0);
        x.addDoor(0);
        x.addDoor(1);
        Check.same("6: opens two doors", x.lose(0), 2);
        Check.same("6: lost", x.key(0, 2), 1);
        Check.same("6: opens one door", x.lose(1), 1);
        Check.same("6: two lost", x.whole(7), 2);
        Check.refused("6: lost already", x, Check.STATE, () -> x.lose(0));
        Check.refused("6: no key", x, Check.INDEX, () -> x.lose(2));
        Check.refused("6: negative", x, Check.INDEX, () -> x.lose(-1));
        x.undo();
        Check.same("6: undone", x.key(1, 2), 0);
    }

    private static void find() {
        MasterPins x = new MasterPins();
        x.addKey(123, -1);
        x.addKey(144, 0);
        Check.refused("7: not lost", x, Check.STATE, () -> x.find(0));
        x.lose(0);
        x.lose(1);
        Check.same("7: one is left", x.find(0), 1);
        Check.same("7: found", x.key(0, 2), 0);
        Check.same("7: none is left", x.find(1), 0);
        Check.refused("7: found already", x, Check.STATE, () -> x.find(1));
        Check.refused("7: no key", x, Check.INDEX, () -> x.find(2));
        Check.refused("7: negative", x, Check.INDEX, () -> x.find(Integer.MIN_VALUE));
        x.undo();
        Check.same("7: undone", x.key(1, 2), 1);
    }
}
