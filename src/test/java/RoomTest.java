import java.lang.management.ManagementFactory;

/**
 * LANGUAGE.md, rule 12: calls make no objects of their own, so that a run of 512 of the dearest
 * ones needs no more room than the object that it is played on.
 */
final class RoomTest {
    private static final int CALLS = 512;
    private static final long MOST_BYTES = 100_000;

    private RoomTest() {
    }

    public static void main(String[] args) {
        MasterPins x = fullSystem();
        playAll(x);
        long before = allocated();
        long sum = 0;
        for (int call = 0; call < CALLS; call++) {
            sum += playAll(x);
        }
        long made = allocated() - before;
        Check.isTrue("room: " + made + " bytes for all calls", made < MOST_BYTES);
        Check.isTrue("room: the answers are used", sum != 0);
        Check.finish("RoomTest");
    }

    private static long allocated() {
        return ((com.sun.management.ThreadMXBean) ManagementFactory.getThreadMXBean())
                .getThreadAllocatedBytes(Thread.currentThread().getId());
    }

    /** 16 keys and 12 doors in the largest system, with works at all doors. */
    private static MasterPins fullSystem() {
        MasterPins x = new MasterPins();
        x.begin(4, 6);
        for (int key = 0; key < 16; key++) {
            x.addKey(key % 4 * 1100 + key / 4 * 11, key - 1);
        }
        for (int door = 0; door < 12; door++) {
            x.addDoor(15 - door);
        }
        x.lose(0);
        Check.typed(x, "rule 0 4; fit 3; pin 3 2; lose 1; find 1; cut 2 2222; all; rule 0 5;");
        return x;
    }

    private static long playAll(MasterPins x) {
        long sum = x.digest() + x.runCommands() + x.setRule(0, 4) + x.freeCodes() + x.undo();
        sum += x.fit(1) + x.fitAll() + x.pin(1, 1) + x.setOwner(1, 1) + x.undo();
        sum += x.betterCode(3) + x.pinsIfTurned(3) + x.pinsIfCut(3, 0) + x.work(0, 0);
        return sum + x.whole(9) + x.door(0, 5);
    }
}
