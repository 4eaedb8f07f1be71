/** The edges of promises 8 to 12: the doors. */
final class EdgesOfDoors {
    private static final int NONE = MasterPins.NONE;

    private EdgesOfDoors() {
    }

    static void run() {
        addsADoor();
        addDoorUndoable();
        addDoorOwner();
        addDoorAnswer();
        addDoorNoKey();
        addDoorFull();
        addsCuts();
        pinUndoable();
        pinDoor();
        pinKey();
        pinAnswer();
        pinNoDoorOrKey();
        fitsADoor();
        fitUndoable();
        fitDoor();
        fitAnswer();
        fitNoDoor();
        fitsAll();
        fitAllUndoable();
        fitAllAnswer();
        givesAnOwner();
        setOwnerUndoable();
        setOwnerDoor();
        setOwnerKey();
        setOwnerAnswer();
        setOwnerNoDoorOrKey();
    }

    private static void says(int promise, String words) {
        Check.sentence("Promise " + promise, words);
    }

    private static void pinsAre(String what, MasterPins x, int door, int... sets) {
        for (int chamber = 0; chamber < sets.length; chamber++) {
            Check.same(what + ": chamber " + chamber, x.pins(door, chamber), sets[chamber]);
        }
    }

    // ---- promise 8

    private static void addsADoor() {
        says(8, "Adds a door, which is fitted.");
        MasterPins x = Systems.rich();
        x.addDoor(1);
        Check.same("owner", x.door(2, 0), 1);
        pinsAre("its owner's and the cuts above", x, 2, 1 << 1, 1 << 2 | 1 << 4, 1 << 3 | 1 << 4);
        Check.same("no pins would change", x.door(2, 7), 0);
        x.addDoor(2);
        pinsAre("a lost owner's cuts are not among them", x, 3, 1 << 1, 1 << 2 | 1 << 4, 1 << 3 | 1 << 4);
        x.lose(0);
        x.lose(1);
        x.addDoor(1);
        pinsAre("without right keys", x, 4, 0, 0, 0);
        Check.same("no pins would change", x.door(4, 7), 0);
        Check.same("the other doors stay", x.door(2, 1), 5);
        MasterPins again = Systems.full();
        again.begin(4, 6);
        again.addKey(1, NONE);
        again.addDoor(0);
        pinsAre("no pins of another system", again, 0, 1, 1, 1, 2);
    }

    private static void addDoorUndoable() {
        says(8, "Undoable.");
        Check.undoable("addDoor", Systems::some, x -> x.addDoor(0));
        Check.undoable("the 12th", Systems::nearlyFull, x -> x.addDoor(15));
    }

    private static void addDoorOwner() {
        says(8, "`owner`: number of a key");
        for (int owner = 0; owner < 16; owner++) {
            MasterPins x = Systems.nearlyFull();
            Check.same("door", x.addDoor(owner), 11);
            Check.same("owner", x.door(11, 0), owner);
            Check.same("right keys", x.door(11, 3), (2 << owner) - 1);
        }
        Check.refusedFor("owner", Systems.NO_KEY, Systems::rich, Check.INDEX, (x, owner) -> x.addDoor(owner));
    }

    private static void addDoorAnswer() {
        says(8, "Returns the number of the door.");
        MasterPins x = Systems.withKeys(2, 2, 0);
        for (int door = 0; door < 12; door++) {
            Check.same("door", x.addDoor(0), door);
        }
        x.undo();
        Check.same("the last one again", x.addDoor(0), 11);
    }

    private static void addDoorNoKey() {
        says(8, "Throws `IndexOutOfBoundsException` if there is no such key");
        Check.refused("without keys", MasterPins::new, Check.INDEX, x -> x.addDoor(0));
        Check.refused("NONE", Systems::rich, Check.INDEX, x -> x.addDoor(NONE));
        Check.refused("the number of keys", Systems::rich, Check.INDEX, x -> x.addDoor(3));
        Check.refused("key 16", Systems::nearlyFull, Check.INDEX, x -> x.addDoor(16));
        Check.refused("before the number of doors", Systems::full, Check.INDEX, x -> x.addDoor(16));
    }

    private static void addDoorFull() {
        says(8, "Throws `IllegalStateException` if there are 12 doors");
        Check.refused("the 13th", Systems::full, Check.STATE, x -> x.addDoor(0));
        Check.refused("of the last key", Systems::full, Check.STATE, x -> x.addDoor(15));
        Check.same("the 12th", Systems.nearlyFull().addDoor(0), 11);
    }

    // ---- promise 9

    private static void addsCuts() {
        says(9, "Adds the cuts of a key to the pins of a door.");
        MasterPins x = Systems.withKeys(3, 5, 0, 144, 204);
        x.addDoor(0);
        x.addDoor(0);
        x.pin(0, 1);
        pinsAre("of one key", x, 0, 1 | 1 << 1, 1 | 1 << 4, 1 | 1 << 4);
        x.pin(0, 2);
        pinsAre("of another", x, 0, 1 | 1 << 1 | 1 << 2, 1 | 1 << 4, 1 | 1 << 4);
        pinsAre("the other door stays", x, 1, 1, 1, 1);
        x.lose(1);
        x.pin(1, 1);
        pinsAre("of a lost key", x, 1, 1 | 1 << 1, 1 | 1 << 4, 1 | 1 << 4);
    }

    private static void pinUndoable() {
        says(9, "Undoable.");
        Check.undoable("pins that come", () -> {
            MasterPins x = Systems.withKeys(3, 5, 0, 111);
            x.addDoor(0);
            x.fit(0);
            x.undo();
            return x;
        }, x -> x.pin(0, 1));
        Check.undoable("no pins that come", Systems::some, x -> x.pin(0, 0));
    }

    private static void pinDoor() {
        says(9, "`door`: number of a door");
        for (int door = 0; door < 12; door++) {
            MasterPins x = Systems.allLost();
            x.fitAll();
            Check.same("pins that come", x.pin(door, 15), 4);
            for (int other = 0; other < 12; other++) {
                Check.same("pins of door " + other, x.door(other, 1), other == door ? 4 : 0);
            }
        }
        Check.refusedFor("door", Systems.NO_DOOR, Systems::rich, Check.INDEX, (x, door) -> x.pin(door, 0));
    }

    private static void pinKey() {
        says(9, "`key`: number of a key");
        int[] cutOfChamber3 = {0, 1, 2, 3, 4, 5, 1, 2, 3, 4, 5, 0, 0, 0, 0, 0};
        for (int key = 0; key < 16; key++) {
            MasterPins x = Systems.allLost();
            x.fitAll();
            Check.same("pins that come", x.pin(11, key), 4);
            Check.same("pin of chamber 3", x.pins(11, 3), 1 << cutOfChamber3[key]);
        }
        Check.refusedFor("key", Systems.NO_KEY, Systems::rich, Check.INDEX, (x, key) -> x.pin(0, key));
    }

    private static void pinAnswer() {
        says(9, "Returns the number of pins that were added.");
        MasterPins x = Systems.withKeys(4, 6, 0, 5, 55, 1055, 2340, 1235);
        x.addDoor(0);
        int[] due = {0, 1, 1, 1, 3, 2};
        for (int key = 0; key < due.length; key++) {
            Check.same("of key " + key, x.pin(0, key), due[key]);
        }
        for (int key = 0; key < due.length; key++) {
            Check.same("once more of key " + key, x.pin(0, key), 0);
        }
    }

    private static void pinNoDoorOrKey() {
        says(9, "Throws `IndexOutOfBoundsException` if there is no such door or key");
        Check.refused("without doors", () -> Systems.withKeys(3, 5, 0), Check.INDEX, x -> x.pin(0, 0));
        Check.refused("without keys", MasterPins::new, Check.INDEX, x -> x.pin(0, 0));
        Check.refused("the number of doors", Systems::rich, Check.INDEX, x -> x.pin(2, 0));
        Check.refused("the number of keys", Systems::rich, Check.INDEX, x -> x.pin(1, 3));
        Check.refused("both", Systems::rich, Check.INDEX, x -> x.pin(-1, -1));
        Check.refused("door 12", Systems::full, Check.INDEX, x -> x.pin(12, 0));
        Check.refused("key 16", Systems::full, Check.INDEX, x -> x.pin(0, 16));
    }

    // ---- promise 10

    private static void fitsADoor() {
        says(10, "Fits a door.");
        MasterPins x = Systems.withKeys(3, 5, 0, 111);
        x.addDoor(0);
        x.addDoor(0);
        x.pin(0, 1);
        x.recut(0, 234);
        x.fit(0);
        pinsAre("the cuts of its right key", x, 0, 1 << 2, 1 << 3, 1 << 4);
        Check.same("no pins would change", x.door(0, 7), 0);
        pinsAre("the other door stays", x, 1, 1, 1, 1);
        x.lose(0);
        x.fit(0);
        pinsAre("without right keys", x, 0, 0, 0, 0);
        x.find(0);
        x.fit(0);
        pinsAre("with its key again", x, 0, 1 << 2, 1 << 3, 1 << 4);
    }

    private static void fitUndoable() {
        says(10, "Undoable.");
        Check.undoable("pins that change", Systems::some, x -> x.fit(1));
        Check.undoable("no pins that change", Systems::nearlyFull, x -> x.fit(0));
    }

    private static void fitDoor() {
        says(10, "`door`: number of a door");
        for (int door = 0; door < 12; door++) {
            MasterPins x = Systems.allLost();
            Check.same("pins that change", x.fit(door), 24);
            for (int other = 0; other < 12; other++) {
                Check.same("pins of door " + other, x.door(other, 1), other == door ? 0 : 24);
            }
        }
        Check.refusedFor("door", Systems.NO_DOOR, Systems::rich, Check.INDEX, (x, door) -> x.fit(door));
    }

    private static void fitAnswer() {
        says(10, "Returns the number of pins that change.");
        MasterPins x = Systems.withKeys(4, 6, 0, 5432);
        x.addDoor(0);
        Check.same("none", x.fit(0), 0);
        x.pin(0, 1);
        Check.same("four go", x.fit(0), 4);
        x.recut(0, 1);
        Check.same("one goes and one comes", x.fit(0), 2);
        x.setOwner(0, 1);
        Check.same("four go and four come", x.fit(0), 8);
        Check.same("none then", x.fit(0), 0);
        MasterPins lost = Systems.allLost();
        Check.same("all 24 go", lost.fit(11), 24);
        lost.find(15);
        Check.same("four come", lost.fit(11), 4);
        lost.undo();
        lost.undo();
        Check.same("no pins and no right keys", lost.fit(11), 0);
    }

    private static void fitNoDoor() {
        says(10, "Throws `IndexOutOfBoundsException` if there is no such door");
        Check.refused("without doors", () -> Systems.withKeys(3, 5, 0), Check.INDEX, x -> x.fit(0));
        Check.refused("the number of doors", Systems::rich, Check.INDEX, x -> x.fit(2));
        Check.refused("-1", Systems::rich, Check.INDEX, x -> x.fit(-1));
        Check.refused("door 12", Systems::full, Check.INDEX, x -> x.fit(12));
    }

    // ---- promise 11

    private static void fitsAll() {
        says(11, "Fits all doors.");
        MasterPins x = Systems.allLost();
        x.fitAll();
        for (int door = 0; door < 12; door++) {
            Check.same("pins of door " + door, x.door(door, 1), 0);
        }
        x.find(0);
        x.setOwner(11, 0);
        x.find(1);
        x.fitAll();
        for (int door = 0; door < 12; door++) {
            Check.same("pins of door " + door, x.door(door, 1), door == 11 ? 4 : 8);
            Check.same("pins that would change", x.door(door, 7), 0);
        }
    }

    private static void fitAllUndoable() {
        says(11, "Undoable.");
        Check.undoable("pins that change", Systems::some, MasterPins::fitAll);
        Check.undoable("no pins that change", Systems::nearlyFull, MasterPins::fitAll);
        Check.undoable("no doors", MasterPins::new, MasterPins::fitAll);
    }

    private static void fitAllAnswer() {
        says(11, "Returns the number of pins that change, in all.");
        Check.same("no doors", new MasterPins().fitAll(), 0);
        Check.same("no pins", Systems.full().fitAll(), 0);
        MasterPins x = Systems.allLost();
        Check.same("all pins of 12 doors", x.fitAll(), 12 * 24);
        Check.same("none then", x.fitAll(), 0);
        x.find(0);
        Check.same("four come at each door", x.fitAll(), 12 * 4);
        Check.same("rich system", Systems.rich().fitAll(), 3 + 3);
    }

    // ---- promise 12

    private static void givesAnOwner() {
        says(12, "Gives a door another owner; its cylinder stays.");
        MasterPins x = Systems.rich();
        x.setOwner(1, 0);
        Check.same("owner", x.door(1, 0), 0);
        Check.same("right keys", x.door(1, 3), 1);
        MasterPins before = Systems.rich();
        for (int door = 0; door < 2; door++) {
            pinsAre("pins of door " + door, x, door, before.pins(door, 0), before.pins(door, 1), before.pins(door, 2));
        }
        Check.same("the other door's owner", x.door(0, 0), 2);
        x.setOwner(1, 2);
        Check.same("a lost owner", x.door(1, 3), 3);
    }

    private static void setOwnerUndoable() {
        says(12, "Undoable.");
        Check.undoable("another owner", Systems::some, x -> x.setOwner(0, 0));
        Check.undoable("the same owner", Systems::some, x -> x.setOwner(0, 2));
    }

    private static void setOwnerDoor() {
        says(12, "`door`: number of a door");
        for (int door = 0; door < 12; door++) {
            MasterPins x = Systems.full();
            x.setOwner(door, 3);
            for (int other = 0; other < 12; other++) {
                Check.same("owner of door " + other, x.door(other, 0), other == door ? 3 : 15);
            }
        }
        Check.refusedFor("door", Systems.NO_DOOR, Systems::rich, Check.INDEX, (x, door) -> x.setOwner(door, 0));
    }

    private static void setOwnerKey() {
        says(12, "`key`: number of a key");
        for (int key = 0; key < 16; key++) {
            MasterPins x = Systems.full();
            x.setOwner(11, key);
            Check.same("owner", x.door(11, 0), key);
        }
        Check.refusedFor("key", Systems.NO_KEY, Systems::rich, Check.INDEX, (x, key) -> x.setOwner(0, key));
    }

    private static void setOwnerAnswer() {
        says(12, "Returns the previous owner.");
        MasterPins x = Systems.full();
        Check.same("the first one", x.setOwner(11, 0), 15);
        Check.same("the next one", x.setOwner(11, 7), 0);
        Check.same("the same one", x.setOwner(11, 7), 7);
        x.undo();
        x.undo();
        Check.same("after undo", x.setOwner(11, 15), 0);
    }

    private static void setOwnerNoDoorOrKey() {
        says(12, "Throws `IndexOutOfBoundsException` if there is no such door or key");
        Check.refused("without doors", () -> Systems.withKeys(3, 5, 0), Check.INDEX, x -> x.setOwner(0, 0));
        Check.refused("the number of doors", Systems::rich, Check.INDEX, x -> x.setOwner(2, 0));
        Check.refused("the number of keys", Systems::rich, Check.INDEX, x -> x.setOwner(1, 3));
        Check.refused("NONE", Systems::rich, Check.INDEX, x -> x.setOwner(1, NONE));
        Check.refused("both", Systems::rich, Check.INDEX, x -> x.setOwner(2, 3));
        Check.refused("door 12", Systems::full, Check.INDEX, x -> x.setOwner(12, 0));
        Check.refused("key 16", Systems::full, Check.INDEX, x -> x.setOwner(0, 16));
    }
}
