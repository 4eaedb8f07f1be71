/** Promises 13 to 18: the values. */
final class ValuesTest {
    private ValuesTest() {
    }

    public static void main(String[] args) {
        key();
        keyRefused();
        door();
        ghosts();
        ghostsUnderRules();
        ghostsAfterBegin();
        doorRefused();
        pins();
        whole();
        workOrder();
        workByNumbers();
        workRefused();
        byCode();
        Check.finish("ValuesTest");
    }

    /** Keys 0 (123), 1 (143) and 2 (401) below one another, 3 (34) below key 0; doors of 2, 3 and 0. */
    private static MasterPins withDoors() {
        MasterPins x = new MasterPins();
        x.addKey(123, -1);
        x.addKey(143, 0);
        x.addKey(401, 1);
        x.addKey(34, 0);
        x.addDoor(2);
        x.addDoor(3);
        x.addDoor(0);
        return x;
    }

    private static void rowIs(String name, long[] due, int index, MasterPins x, boolean keys) {
        for (int what = 0; what < due.length; what++) {
            long got = keys ? x.key(index, what) : x.door(index, what);
            Check.same(name + " " + what, got, due[what]);
        }
    }

    private static void key() {
        MasterPins x = withDoors();
        rowIs("13: key 0", new long[] {123, -1, 0, 0, 3, 7, 7}, 0, x, true);
        rowIs("13: key 1", new long[] {143, 0, 0, 1, 1, 1, 1}, 1, x, true);
        rowIs("13: key 2", new long[] {401, 1, 0, 2, 0, 1, 1}, 2, x, true);
        rowIs("13: key 3", new long[] {34, 0, 0, 1, 0, 2, 2}, 3, x, true);
        x.lose(0);
        x.setOwner(1, 1);
        rowIs("13: lost key 0", new long[] {123, -1, 1, 0, 3, 7, 0}, 0, x, true);
        rowIs("13: key 1 then", new long[] {143, 0, 0, 1, 1, 1, 3}, 1, x, true);
    }

    private static void keyRefused() {
        MasterPins x = withDoors();
        Check.refused("13: no key", x, Check.INDEX, () -> x.key(4, 0));
        Check.refused("13: NONE", x, Check.INDEX, () -> x.key(-1, 0));
        Check.refused("13: key before what", x, Check.INDEX, () -> x.key(4, 7));
        Check.refused("13: what 7", x, Check.ARGUMENT, () -> x.key(0, 7));
        Check.refused("13: what -1", x, Check.ARGUMENT, () -> x.key(0, -1));
    }

    private static void door() {
        MasterPins x = withDoors();
        // The codes that open door 0 are two times three times two; three of them have keys.
        rowIs("14: door 0", new long[] {2, 7, 7, 7, 0, 9, 0, 0, 12}, 0, x, false);
        rowIs("14: door 1", new long[] {3, 6, 9, 9, 0, 6, 0, 0, 8}, 1, x, false);
        rowIs("14: door 2", new long[] {0, 3, 1, 1, 0, 0, 0, 0, 1}, 2, x, false);
        x.lose(0);
        rowIs("14: door 0 exposed", new long[] {2, 7, 7, 6, 1, 9, 1, 1, 12}, 0, x, false);
        rowIs("14: door 2 exposed", new long[] {0, 3, 1, 0, 1, 0, 1, 3, 1}, 2, x, false);
        x.setOwner(2, 3);
        rowIs("14: door 2 of another", new long[] {3, 3, 1, 8, 2, 0, 1, 6, 1}, 2, x, false);
    }

    private static void ghosts() {
        MasterPins x = withDoors();
        x.recut(0, 444);
        Check.same("14: a code without its key is a ghost", x.door(2, 5), 1);
        Check.same("14: no key opens", x.door(2, 2), 0);
        Check.same("14: owner is wrong", x.door(2, 4), 1);
        x.addKey(123, -1);
        Check.same("14: the code of any key is none", x.door(2, 5), 0);
        x.lose(4);
        Check.same("14: of a lost key neither", x.door(2, 5), 0);
        Check.same("14: exposed by any lost key", x.door(2, 6), 1);
    }

    private static void ghostsUnderRules() {
        MasterPins x = withDoors();
        x.setRule(0, 2);
        // Steps of at most 2 have 101, 121, 123, 421, 423 and 443; 123 is that of a key.
        Check.same("14: ghosts obey the greatest step", x.door(0, 5), 5);
        x.setRule(1, 3);
        Check.same("14: ghosts obey the variety", x.door(0, 5), 2);
        x.undo();
        Check.same("14: ghosts after undo", x.door(0, 5), 5);
        x.setRule(2, 3);
        Check.same("14: ghosts need not differ", x.door(0, 5), 5);
        Check.same("14: codes that open need not obey", x.door(0, 8), 12);
    }

    private static void ghostsAfterBegin() {
        MasterPins x = new MasterPins();
        x.addKey(111, -1);
        x.addKey(0, -1);
        x.begin(3, 5);
        x.addKey(1, -1);
        x.addDoor(0);
        x.recut(0, 2);
        Check.same("14: the code 1 is a ghost", x.door(0, 5), 1);
        x.recut(0, 0);
        x.fit(0);
        x.recut(0, 3);
        Check.same("14: the code 0 is a ghost, whose key was of another system", x.door(0, 5), 1);
    }

    private static void doorRefused() {
        MasterPins x = withDoors();
        Check.refused("14: no door", x, Check.INDEX, () -> x.door(3, 0));
        Check.refused("14: negative", x, Check.INDEX, () -> x.door(-1, 0));
        Check.refused("14: door before what", x, Check.INDEX, () -> x.door(3, 9));
        Check.refused("14: what 9", x, Check.ARGUMENT, () -> x.door(0, 9));
        Check.refused("14: what -1", x, Check.ARGUMENT, () -> x.door(0, -1));
    }

    private static void pins() {
        MasterPins x = new MasterPins();
        x.begin(4, 6);
        x.addKey(5, -1);
        x.addKey(5050, 0);
        x.addDoor(1);
        Check.same("15: chamber 0", x.pins(0, 0), 33);
        Check.same("15: chamber 1", x.pins(0, 1), 1);
        Check.same("15: chamber 2", x.pins(0, 2), 33);
        Check.same("15: chamber 3", x.pins(0, 3), 33);
        Check.refused("15: no door", x, Check.INDEX, () -> x.pins(1, 0));
        Check.refused("15: negative door", x, Check.INDEX, () -> x.pins(-1, 0));
        Check.refused("15: no chamber", x, Check.INDEX, () -> x.pins(0, 4));
        Check.refused("15: negative chamber", x, Check.INDEX, () -> x.pins(0, -1));
        x.begin(2, 6);
        x.addKey(5, -1);
        x.addDoor(0);
        Check.refused("15: a chamber of another system", x, Check.INDEX, () -> x.pins(0, 2));
    }

    private static void whole() {
        MasterPins x = withDoors();
        x.setRule(0, 4);
        x.lose(0);
        x.type(';');
        int[] due = {3, 5, 4, 1, 1, 4, 3, 1, 3, 15, 3, 3, 16, 1};
        for (int what = 0; what < due.length; what++) {
            Check.same("16: whole(" + what + ")", x.whole(what), due[what]);
        }
        Check.refused("16: what 14", x, Check.ARGUMENT, () -> x.whole(14));
        Check.refused("16: what -1", x, Check.ARGUMENT, () -> x.whole(-1));
    }

    private static void workIs(String name, MasterPins x, int index, int door, int pins, int wrong) {
        Check.same(name + " door", x.work(index, 0), door);
        Check.same(name + " pins", x.work(index, 1), pins);
        Check.same(name + " wrong keys", x.work(index, 2), wrong);
    }

    private static void workOrder() {
        MasterPins x = withDoors();
        workIs("17: no work", x, 0, -1, -1, -1);
        x.addKey(222, -1);
        x.addDoor(4);
        x.pin(3, 3);
        x.pin(1, 4);
        x.setOwner(2, 1);
        // One wrong key each: 222 at door 1 with two pins, 143 at door 2, 034 at door 3.
        Check.same("17: three works", x.whole(11), 3);
        workIs("17: fewest pins first", x, 0, 2, 1, 1);
        workIs("17: then more pins", x, 1, 1, 2, 1);
        x.setOwner(2, 3);
        workIs("17: fewest pins then", x, 0, 1, 2, 1);
        workIs("17: with three pins", x, 1, 2, 3, 1);
        workIs("17: of several the lower number", x, 2, 3, 3, 1);
        workIs("17: behind the last", x, 3, -1, -1, -1);
        x.lose(3);
        workIs("17: more wrong keys before fewer pins", x, 0, 1, 5, 2);
        workIs("17: fewer wrong keys", x, 1, 3, 3, 1);
        Check.same("17: door 2 is fitted without the lost key", x.work(2, 0), -1);
    }

    private static void workByNumbers() {
        MasterPins x = new MasterPins();
        x.addKey(0, -1);
        x.addKey(11, -1);
        for (int door = 0; door < 12; door++) {
            x.addDoor(0);
        }
        x.recut(0, 100);
        for (int index = 0; index < 12; index++) {
            workIs("17: by number", x, index, index, 2, 1);
        }
        Check.same("17: no more", x.work(12, 0), -1);
        x.pin(7, 1);
        x.lose(1);
        workIs("17: the exposed one first", x, 0, 7, 4, 2);
        workIs("17: then the others", x, 1, 0, 2, 1);
        workIs("17: the last one", x, 11, 11, 2, 1);
    }

    private static void workRefused() {
        MasterPins x = withDoors();
        Check.refused("17: negative index", x, Check.ARGUMENT, () -> x.work(-1, 0));
        Check.refused("17: what 3", x, Check.ARGUMENT, () -> x.work(0, 3));
        Check.refused("17: what -1", x, Check.ARGUMENT, () -> x.work(0, -1));
        Check.refused("17: wrong what behind the last", x, Check.ARGUMENT, () -> x.work(99, 3));
        Check.same("17: far behind the last", x.work(Integer.MAX_VALUE, 2), -1);
    }

    private static void byCode() {
        MasterPins x = new MasterPins();
        Check.same("18: no keys", x.byCode(0), -1);
        x.addKey(123, -1);
        x.addKey(4, -1);
        x.addKey(444, -1);
        x.addKey(40, -1);
        int[] due = {1, 3, 0, 2, -1};
        for (int index = 0; index < due.length; index++) {
            Check.same("18: place " + index, x.byCode(index), due[index]);
        }
        x.recut(2, 0);
        Check.same("18: after a recut", x.byCode(0), 2);
        Check.same("18: far behind", x.byCode(Integer.MAX_VALUE), -1);
        Check.refused("18: negative", x, Check.ARGUMENT, () -> x.byCode(-1));
    }
}
