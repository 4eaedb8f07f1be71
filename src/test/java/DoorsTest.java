/** Promises 8 to 12: the doors. */
final class DoorsTest {
    private DoorsTest() {
    }

    public static void main(String[] args) {
        addDoor();
        addDoorRefused();
        pin();
        fit();
        fitAll();
        setOwner();
        Check.finish("DoorsTest");
    }

    /** Keys 0 (123), 1 (143) below it, 2 (401) below that, 3 (34) below key 0. */
    private static MasterPins withKeys() {
        MasterPins x = new MasterPins();
        x.addKey(123, -1);
        x.addKey(143, 0);
        x.addKey(401, 1);
        x.addKey(34, 0);
        return x;
    }

    private static void addDoor() {
        MasterPins x = withKeys();
        Check.same("8: first door", x.addDoor(2), 0);
        Check.same("8: pins of chamber 0", x.pins(0, 0), 1 << 1 | 1 << 4);
        Check.same("8: pins of chamber 1", x.pins(0, 1), 1 << 2 | 1 << 4 | 1);
        Check.same("8: pins of chamber 2", x.pins(0, 2), 1 << 3 | 1 << 1);
        Check.same("8: fitted", x.door(0, 7), 0);
        x.lose(1);
        Check.same("8: second door", x.addDoor(2), 1);
        Check.same("8: without the lost key", x.pins(1, 1), 1 << 2 | 1);
        Check.same("8: undo", x.undo(), 3);
        Check.same("8: undone", x.whole(6), 1);
        x.lose(0);
        Check.same("8: door of lost keys alone", x.addDoor(1), 1);
        Check.same("8: no pins remain", x.door(1, 1), 0);
        Check.same("8: nothing opens it", x.door(1, 2), 0);
        Check.same("8: no code opens it", x.door(1, 8), 0);
    }

    private static void addDoorRefused() {
        MasterPins x = new MasterPins();
        Check.refused("8: no key", x, Check.INDEX, () -> x.addDoor(0));
        Check.refused("8: NONE", x, Check.INDEX, () -> x.addDoor(-1));
        x.addKey(123, -1);
        for (int door = 0; door < 12; door++) {
            Check.same("8: door", x.addDoor(0), door);
        }
        Check.refused("8: the 13th door", x, Check.STATE, () -> x.addDoor(0));
        Check.refused("8: key before number", x, Check.INDEX, () -> x.addDoor(1));
    }

    private static void pin() {
        MasterPins x = withKeys();
        x.addDoor(3);
        Check.same("9: pins that were there", x.pin(0, 0), 0);
        Check.same("9: two pins", x.pin(0, 1), 1);
        Check.same("9: three pins", x.pin(0, 2), 3);
        Check.same("9: chamber 0", x.pins(0, 0), 1 << 0 | 1 << 1 | 1 << 4);
        Check.same("9: chamber 1", x.pins(0, 1), 1 << 3 | 1 << 2 | 1 << 4 | 1);
        Check.same("9: undo", x.undo(), 3);
        Check.same("9: undone", x.pins(0, 0), 1 << 0 | 1 << 1);
        x.lose(2);
        Check.same("9: a lost key", x.pin(0, 2), 3);
        Check.refused("9: no door", x, Check.INDEX, () -> x.pin(1, 0));
        Check.refused("9: no key", x, Check.INDEX, () -> x.pin(0, 4));
        Check.refused("9: negative door", x, Check.INDEX, () -> x.pin(-1, 0));
        Check.refused("9: negative key", x, Check.INDEX, () -> x.pin(0, -1));
    }

    private static void fit() {
        MasterPins x = withKeys();
        x.addDoor(1);
        Check.same("10: nothing changes", x.fit(0), 0);
        x.pin(0, 2);
        x.recut(1, 44);
        Check.same("10: pins come and go", x.fit(0), 5);
        Check.same("10: chamber 0", x.pins(0, 0), 1 | 1 << 1);
        Check.same("10: chamber 2", x.pins(0, 2), 1 << 4 | 1 << 3);
        Check.same("10: undo", x.undo(), 3);
        Check.same("10: undone", x.door(0, 7), 5);
        x.lose(0);
        x.lose(1);
        Check.same("10: no right keys", x.fit(0), 7);
        Check.same("10: no pins", x.door(0, 1), 0);
        Check.refused("10: no door", x, Check.INDEX, () -> x.fit(1));
        Check.refused("10: negative", x, Check.INDEX, () -> x.fit(-1));
    }

    private static void fitAll() {
        MasterPins x = withKeys();
        Check.same("11: without doors", x.fitAll(), 0);
        Check.same("11: undoable without change", x.whole(6), 0);
        x.addDoor(0);
        x.addDoor(1);
        x.addDoor(3);
        x.lose(0);
        Check.same("11: pins of all", x.fitAll(), 3 + 1 + 3);
        Check.same("11: first door", x.door(0, 1), 0);
        Check.same("11: second door", x.door(1, 1), 3);
        Check.same("11: no works", x.whole(11), 0);
        Check.same("11: undo", x.undo(), 3);
        Check.same("11: undone", x.whole(12), 3 + 4 + 6);
    }

    private static void setOwner() {
        MasterPins x = withKeys();
        x.addDoor(3);
        Check.same("12: previous owner", x.setOwner(0, 1), 3);
        Check.same("12: owner", x.door(0, 0), 1);
        Check.same("12: the cylinder stays", x.pins(0, 0), 3);
        Check.same("12: the right keys change", x.door(0, 3), 3);
        Check.same("12: the same owner", x.setOwner(0, 1), 1);
        Check.same("12: undo", x.undo(), 3);
        x.undo();
        Check.same("12: undone", x.door(0, 0), 3);
        Check.refused("12: no door", x, Check.INDEX, () -> x.setOwner(1, 0));
        Check.refused("12: no key", x, Check.INDEX, () -> x.setOwner(0, 4));
        Check.refused("12: NONE", x, Check.INDEX, () -> x.setOwner(0, -1));
        Check.refused("12: negative door", x, Check.INDEX, () -> x.setOwner(-1, 0));
    }
}
