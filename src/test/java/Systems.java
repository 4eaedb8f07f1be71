/** Systems that tests begin from: each call builds the same one anew. */
final class Systems {
    /** Numbers that are no key, no door and no chamber of the systems some() and rich(). */
    static final int[] NO_KEY = {-1, -2, 3, 4, 15, 16, Integer.MIN_VALUE, Integer.MAX_VALUE};
    static final int[] NO_KEY_NOR_NONE = {-2, 3, 4, 15, 16, Integer.MIN_VALUE, Integer.MAX_VALUE};
    static final int[] NO_DOOR = {-1, -2, 2, 3, 11, 12, Integer.MIN_VALUE, Integer.MAX_VALUE};
    static final int[] NO_CHAMBER = {-1, 3, 4, Integer.MIN_VALUE, Integer.MAX_VALUE};

    private Systems() {
    }

    static MasterPins of(int chambers, int depths) {
        MasterPins x = new MasterPins();
        x.begin(chambers, depths);
        return x;
    }

    /** A system with keys of these codes, none of which has a master. */
    static MasterPins withKeys(int chambers, int depths, int... codes) {
        MasterPins x = of(chambers, depths);
        for (int code : codes) {
            x.addKey(code, MasterPins.NONE);
        }
        return x;
    }

    /** The greatest steps, least varieties and least differences that the codes have to obey. */
    static MasterPins withRules(int chambers, int depths, int step, int variety, int difference) {
        MasterPins x = of(chambers, depths);
        x.setRule(0, step);
        x.setRule(1, variety);
        x.setRule(2, difference);
        return x;
    }

    /**
     * Keys 0 (123), 1 (144) and 2 (401, lost) below one another, doors of 2 and of 1 with a pin too
     * many, rule 0 set to 4; the undo stack is full, and each of its states is another one.
     */
    static MasterPins rich() {
        MasterPins x = new MasterPins();
        x.addKey(123, MasterPins.NONE);
        x.addKey(144, 0);
        x.addKey(401, 1);
        x.addDoor(2);
        x.addDoor(1);
        x.lose(2);
        x.pin(1, 2);
        x.setRule(0, 4);
        Check.typed(x, "find 2;cut 0 333;");
        return x;
    }

    /** As rich(), ahead of the rule, with three saved states. */
    static MasterPins some() {
        MasterPins x = rich();
        x.undo();
        return x;
    }

    /**
     * All that there may be: 4 chambers and 6 depths, 16 keys below one another, 12 doors of the last
     * key, which so have all 24 pins each.
     */
    static MasterPins full() {
        MasterPins x = of(4, 6);
        int[] codes = {0, 1111, 2222, 3333, 4444, 5555, 1, 2, 3, 4, 5, 10, 20, 30, 40, 50};
        for (int key = 0; key < codes.length; key++) {
            x.addKey(codes[key], key - 1);
        }
        for (int door = 0; door < 12; door++) {
            x.addDoor(15);
        }
        return x;
    }

    /** As full(), with all keys lost, while the cylinders stay. */
    static MasterPins allLost() {
        MasterPins x = full();
        for (int key = 0; key < 16; key++) {
            x.lose(key);
        }
        return x;
    }

    /** As full(), ahead of the last door, with three saved states. */
    static MasterPins nearlyFull() {
        MasterPins x = full();
        x.undo();
        return x;
    }
}
