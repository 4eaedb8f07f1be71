/**
 * Promises 1 to 28 together: long runs of calls, drawn by fixed seeds, in which MasterPins has to
 * answer and throw what SlowModel does.
 */
final class RandomRunsTest {
    private static final int RUNS = 400;
    private static final int CALLS = 250;
    private static final int WORST = 20;

    private static final String[] WORDS = {"master", "key", "door", "pin", "fit", "lose", "find", "cut",
        "rule", "all"};
    private static final int[] NUMBERS = {1, 2, 1, 2, 1, 1, 1, 2, 2, 0};
    private static final String STRAY = " ;;09azAZ/:`{\t-";

    private final MasterPins pins = new MasterPins();
    private final SlowModel model = new SlowModel();
    private final int run;
    private long seed;

    private RandomRunsTest(int run) {
        this.run = run;
        this.seed = run * 7919L + 17;
    }

    public static void main(String[] args) {
        int runs = args.length > 0 ? Integer.parseInt(args[0]) : RUNS;
        for (int run = 0; run < runs; run++) {
            new RandomRunsTest(run).play();
        }
        Check.finish("RandomRunsTest");
    }

    private int below(int bound) {
        seed = seed * 6364136223846793005L + 1442695040888963407L;
        return (int) ((seed >>> 33) % bound);
    }

    private boolean oneIn(int bound) {
        return below(bound) == 0;
    }

    private int strange() {
        int[] values = {-1, -2, -3, 16, 12, 4, 1000, Integer.MAX_VALUE, Integer.MIN_VALUE, 99999};
        return values[below(values.length)];
    }

    private int drawnKey() {
        return oneIn(WORST) ? strange() : below(Math.max(1, pins.whole(5)));
    }

    private int drawnDoor() {
        return oneIn(WORST) ? strange() : below(Math.max(1, pins.whole(6)));
    }

    private int drawnCode() {
        if (oneIn(WORST)) {
            return oneIn(2) ? strange() : below(20000);
        }
        int code = 0;
        for (int chamber = 0; chamber < pins.whole(0); chamber++) {
            code = code * 10 + below(pins.whole(1));
        }
        return code;
    }

    private void play() {
        if (run % 3 != 0) {
            int chambers = 2 + below(3);
            int depths = 2 + below(5);
            compare("begin", () -> pins.begin(chambers, depths), () -> model.begin(chambers, depths));
        }
        for (int call = 0; call < CALLS; call++) {
            switch (below(4)) {
                case 0 -> changeKeys();
                case 1 -> changeDoors();
                case 2 -> ask();
                default -> useText();
            }
            if (oneIn(8)) {
                compare("digest", pins::digest, model::digest);
            }
        }
        compare("digest at the end", pins::digest, model::digest);
    }

    private void changeKeys() {
        int key = drawnKey();
        int code = drawnCode();
        int rule = oneIn(WORST) ? strange() : below(3);
        int value = oneIn(WORST) ? strange() : oneIn(2) ? (rule == 0 ? 5 : 1) : below(6);
        int master = oneIn(3) ? -1 : key;
        int chambers = 1 + below(5);
        int depths = 1 + below(7);
        switch (below(12)) {
            case 0 -> compare("recut", () -> pins.recut(key, code), () -> model.recut(key, code));
            case 1, 2 -> compare("lose", () -> pins.lose(key), () -> model.lose(key));
            case 3 -> compare("find", () -> pins.find(key), () -> model.find(key));
            case 4 -> compare("setRule", () -> pins.setRule(rule, value), () -> model.setRule(rule, value));
            case 5 -> {
                if (oneIn(WORST)) {
                    compare("begin", () -> pins.begin(chambers, depths), () -> model.begin(chambers, depths));
                }
            }
            default -> compare("addKey", () -> pins.addKey(code, master), () -> model.addKey(code, master));
        }
    }

    private void changeDoors() {
        int key = drawnKey();
        int door = drawnDoor();
        switch (below(8)) {
            case 0, 1, 2 -> compare("addDoor", () -> pins.addDoor(key), () -> model.addDoor(key));
            case 3, 4 -> compare("pin", () -> pins.pin(door, key), () -> model.pin(door, key));
            case 5 -> compare("fit", () -> pins.fit(door), () -> model.fit(door));
            case 6 -> {
                if (oneIn(3)) {
                    compare("fitAll", pins::fitAll, model::fitAll);
                }
            }
            default -> compare("setOwner", () -> pins.setOwner(door, key), () -> model.setOwner(door, key));
        }
    }

    private void ask() {
        int key = drawnKey();
        int door = drawnDoor();
        int code = drawnCode();
        int what = below(16) - 1;
        int index = below(18) - 1;
        int some = oneIn(3) ? -1 : key;
        switch (below(12)) {
            case 0 -> compare("key", () -> pins.key(key, what), () -> model.key(key, what));
            case 1 -> compare("door", () -> pins.door(door, what), () -> model.door(door, what));
            case 2 -> compare("pins", () -> pins.pins(door, what), () -> model.pins(door, what));
            case 3 -> compare("whole", () -> pins.whole(what), () -> model.whole(what));
            case 4 -> compare("work", () -> pins.work(index, what % 4), () -> model.work(index, what % 4));
            case 5 -> compare("byCode", () -> pins.byCode(index), () -> model.byCode(index));
            case 6 -> compare("reason", () -> pins.reason(some, code), () -> model.reason(some, code));
            case 7 -> compare("freeCodes", pins::freeCodes, model::freeCodes);
            case 8, 9 -> compare("betterCode", () -> pins.betterCode(key), () -> model.betterCode(key));
            case 10 -> compare("pinsIfTurned", () -> pins.pinsIfTurned(key), () -> model.pinsIfTurned(key));
            default -> compare("pinsIfCut", () -> pins.pinsIfCut(key, code), () -> model.pinsIfCut(key, code));
        }
    }

    private void useText() {
        switch (below(4)) {
            case 0 -> compare("undo", pins::undo, model::undo);
            case 1 -> {
                int value = oneIn(4) ? strange() : below(130);
                compare("type", () -> pins.type(value), () -> model.type(value));
            }
            case 2 -> compare("runCommands", pins::runCommands, model::runCommands);
            default -> {
                compare("clearCommands", pins::clearCommands, model::clearCommands);
                typeDrawnText();
                compare("runCommands", pins::runCommands, model::runCommands);
            }
        }
    }

    private void typeDrawnText() {
        StringBuilder drawn = new StringBuilder();
        int commands = below(7);
        for (int command = 0; command < commands; command++) {
            drawn.append(spaces(0)).append(drawnCommand()).append(spaces(0)).append(';');
        }
        drawn.append(spaces(0));
        if (drawn.length() > 0 && oneIn(3)) {
            spoil(drawn);
        }
        for (int place = 0; place < drawn.length(); place++) {
            int value = drawn.charAt(place);
            compare("type", () -> pins.type(value), () -> model.type(value));
        }
    }

    private String spaces(int least) {
        return " ".repeat(oneIn(4) ? least + below(3) : least);
    }

    private String drawnCommand() {
        int word = below(WORDS.length);
        StringBuilder command = new StringBuilder(WORDS[word]);
        for (int number = 0; number < NUMBERS[word]; number++) {
            boolean isCode = WORDS[word].equals("master") && number == 0
                    || WORDS[word].equals("key") && number == 0
                    || WORDS[word].equals("cut") && number == 1;
            int value = isCode ? drawnCode() : oneIn(2) ? drawnKey() : below(4);
            command.append(spaces(1)).append(oneIn(5) ? "0" : "").append(Math.abs(value % 10000));
        }
        return command.toString();
    }

    private void spoil(StringBuilder drawn) {
        int place = below(drawn.length());
        switch (below(4)) {
            case 0 -> drawn.deleteCharAt(place);
            case 1 -> drawn.setLength(place);
            case 2 -> drawn.setCharAt(place, STRAY.charAt(below(STRAY.length())));
            default -> drawn.insert(place, STRAY.charAt(below(STRAY.length())));
        }
    }

    private void compare(String call, Check.Call got, Check.Call due) {
        Check.same("run " + run + ": " + call, Check.outcome(got), Check.outcome(due));
    }
}
