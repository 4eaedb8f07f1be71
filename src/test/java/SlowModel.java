import java.util.ArrayList;
import java.util.Comparator;
import java.util.List;
import java.util.TreeSet;
import java.util.regex.Matcher;
import java.util.regex.Pattern;

/**
 * The document's words once more, as plainly as they stand and without regard to speed: codes are
 * texts of digits, pins are sets, each value is worked out anew. RandomRunsTest holds MasterPins
 * against it.
 */
final class SlowModel {
    private static final String NUMBER = " +[0-9]{1,4}";
    private static final String COMMAND = " *(?:(?:master|door|fit|lose|find)" + NUMBER
            + "|(?:key|pin|cut|rule)" + NUMBER + NUMBER + "|all) *;";
    private static final Pattern COMMANDS = Pattern.compile("(?:" + COMMAND + ")*+ *");
    private static final Pattern WORD = Pattern.compile("master|key|door|pin|fit|lose|find|cut|rule|all");

    /** A key: its code, its master, and whether it is lost. */
    private record Key(String code, int master, boolean lost) {
    }

    /** A door: its owner, and for each chamber the set of its pins. */
    private record Door(int owner, List<TreeSet<Integer>> pins) {
    }

    /** A whole state but the command text; its parts are never changed, but put anew. */
    private record State(int chambers, int depths, List<Integer> rules, List<Key> keys, List<Door> doors) {
    }

    private State now = new State(3, 5, List.of(5, 1, 1), List.of(), List.of());
    private final ArrayList<State> saved = new ArrayList<>();
    private String text = "";

    private void save() {
        saved.add(now);
        if (saved.size() > 4) {
            saved.remove(0);
        }
    }

    private void needKey(int key) {
        if (key < 0 || key >= now.keys.size()) {
            throw new IndexOutOfBoundsException();
        }
    }

    private void needDoor(int door) {
        if (door < 0 || door >= now.doors.size()) {
            throw new IndexOutOfBoundsException();
        }
    }

    private static void needArgument(boolean fine) {
        if (!fine) {
            throw new IllegalArgumentException();
        }
    }

    private static void needState(boolean fine) {
        if (!fine) {
            throw new IllegalStateException();
        }
    }

    private static <T> List<T> with(List<T> list, int place, T value) {
        ArrayList<T> copy = new ArrayList<>(list);
        if (place == copy.size()) {
            copy.add(value);
        } else {
            copy.set(place, value);
        }
        return copy;
    }

    private void putKey(int place, Key key) {
        now = new State(now.chambers, now.depths, now.rules, with(now.keys, place, key), now.doors);
    }

    private void putDoor(int place, Door door) {
        now = new State(now.chambers, now.depths, now.rules, now.keys, with(now.doors, place, door));
    }

    // ---- keys

    int begin(int chambers, int depths) {
        needArgument(chambers >= 2 && chambers <= 4 && depths >= 2 && depths <= 6);
        save();
        int doors = now.doors.size();
        now = new State(chambers, depths, now.rules, List.of(), List.of());
        return doors;
    }

    int setRule(int rule, int value) {
        needArgument(rule >= 0 && rule <= 2);
        needArgument(rule == 0 ? value >= 0 && value <= 5 : value >= 1 && value <= 4);
        save();
        int previous = now.rules.get(rule);
        now = new State(now.chambers, now.depths, with(now.rules, rule, value), now.keys, now.doors);
        return previous;
    }

    int addKey(int code, int master) {
        if (master != -1) {
            needKey(master);
        }
        needArgument(reason(-1, code) == 0);
        needState(now.keys.size() < 16);
        save();
        putKey(now.keys.size(), new Key(digits(code), master, false));
        return now.keys.size() - 1;
    }

    int recut(int key, int code) {
        needKey(key);
        needArgument(reason(key, code) == 0);
        save();
        Key old = now.keys.get(key);
        putKey(key, new Key(digits(code), old.master, old.lost));
        return difference(old.code, digits(code));
    }

    int lose(int key) {
        needKey(key);
        Key old = now.keys.get(key);
        needState(!old.lost);
        save();
        putKey(key, new Key(old.code, old.master, true));
        return Integer.bitCount(key(key, 5));
    }

    int find(int key) {
        needKey(key);
        Key old = now.keys.get(key);
        needState(old.lost);
        save();
        putKey(key, new Key(old.code, old.master, false));
        return whole(7);
    }

    // ---- doors

    int addDoor(int owner) {
        needKey(owner);
        needState(now.doors.size() < 12);
        save();
        putDoor(now.doors.size(), fitted(now.keys, owner));
        return now.doors.size() - 1;
    }

    int pin(int door, int key) {
        needDoor(door);
        needKey(key);
        save();
        Door old = now.doors.get(door);
        List<TreeSet<Integer>> pins = new ArrayList<>();
        int added = 0;
        for (int chamber = 0; chamber < now.chambers; chamber++) {
            TreeSet<Integer> set = new TreeSet<>(old.pins.get(chamber));
            added += set.add(cut(now.keys.get(key).code, chamber)) ? 1 : 0;
            pins.add(set);
        }
        putDoor(door, new Door(old.owner, pins));
        return added;
    }

    int fit(int door) {
        needDoor(door);
        save();
        int changes = door(door, 7);
        putDoor(door, fitted(now.keys, now.doors.get(door).owner));
        return changes;
    }

    int fitAll() {
        save();
        int changes = changesIf(now.keys);
        for (int door = 0; door < now.doors.size(); door++) {
            putDoor(door, fitted(now.keys, now.doors.get(door).owner));
        }
        return changes;
    }

    int setOwner(int door, int key) {
        needDoor(door);
        needKey(key);
        save();
        Door old = now.doors.get(door);
        putDoor(door, new Door(key, old.pins));
        return old.owner;
    }

    // ---- what a code is

    private static int cut(String code, int chamber) {
        return code.charAt(chamber) - '0';
    }

    /** The digits of a code, with zeros in front; null for a number that has too many or is negative. */
    private String digits(int code) {
        String written = Integer.toString(code);
        if (code < 0 || written.length() > now.chambers) {
            return null;
        }
        return "0".repeat(now.chambers - written.length()) + written;
    }

    private List<String> allCodes() {
        List<String> codes = List.of("");
        for (int chamber = 0; chamber < now.chambers; chamber++) {
            ArrayList<String> longer = new ArrayList<>();
            for (String code : codes) {
                for (int cut = 0; cut < now.depths; cut++) {
                    longer.add(code + cut);
                }
            }
            codes = longer;
        }
        return codes;
    }

    private static int difference(String one, String other) {
        int count = 0;
        for (int chamber = 0; chamber < one.length(); chamber++) {
            count += one.charAt(chamber) == other.charAt(chamber) ? 0 : 1;
        }
        return count;
    }

    private static int distance(String one, String other) {
        int sum = 0;
        for (int chamber = 0; chamber < one.length(); chamber++) {
            sum += Math.abs(cut(one, chamber) - cut(other, chamber));
        }
        return sum;
    }

    private int reasonOf(int key, String code) {
        if (code == null || code.chars().anyMatch(digit -> digit - '0' >= now.depths)) {
            return 1;
        }
        for (int chamber = 0; chamber + 1 < now.chambers; chamber++) {
            if (Math.abs(cut(code, chamber) - cut(code, chamber + 1)) > now.rules.get(0)) {
                return 2;
            }
        }
        if (code.chars().distinct().count() < now.rules.get(1)) {
            return 3;
        }
        for (int other = 0; other < now.keys.size(); other++) {
            if (other != key && difference(code, now.keys.get(other).code) < now.rules.get(2)) {
                return 4;
            }
        }
        return 0;
    }

    int reason(int key, int code) {
        if (key != -1) {
            needKey(key);
        }
        return reasonOf(key, digits(code));
    }

    // ---- what a door is

    private static boolean isAbove(List<Key> keys, int upper, int lower) {
        int master = keys.get(lower).master;
        return master != -1 && (master == upper || isAbove(keys, upper, master));
    }

    private static boolean isRight(List<Key> keys, int key, int owner) {
        return !keys.get(key).lost && (key == owner || isAbove(keys, key, owner));
    }

    private Door fitted(List<Key> keys, int owner) {
        List<TreeSet<Integer>> pins = new ArrayList<>();
        for (int chamber = 0; chamber < now.chambers; chamber++) {
            TreeSet<Integer> set = new TreeSet<>();
            for (int key = 0; key < keys.size(); key++) {
                if (isRight(keys, key, owner)) {
                    set.add(cut(keys.get(key).code, chamber));
                }
            }
            pins.add(set);
        }
        return new Door(owner, pins);
    }

    private int changes(Door one, Door other) {
        int count = 0;
        for (int chamber = 0; chamber < now.chambers; chamber++) {
            for (int pin = 0; pin < now.depths; pin++) {
                boolean before = one.pins.get(chamber).contains(pin);
                count += before == other.pins.get(chamber).contains(pin) ? 0 : 1;
            }
        }
        return count;
    }

    private int changesIf(List<Key> keys) {
        int sum = 0;
        for (Door door : now.doors) {
            sum += changes(door, fitted(keys, door.owner));
        }
        return sum;
    }

    private boolean opens(String code, Door door) {
        for (int chamber = 0; chamber < now.chambers; chamber++) {
            if (!door.pins.get(chamber).contains(cut(code, chamber))) {
                return false;
            }
        }
        return true;
    }

    // ---- values

    int key(int key, int what) {
        needKey(key);
        needArgument(what >= 0 && what <= 6);
        Key it = now.keys.get(key);
        int count = 0;
        switch (what) {
            case 0:
                return Integer.parseInt(it.code);
            case 1:
                return it.master;
            case 2:
                return it.lost ? 1 : 0;
            case 3:
            case 4:
                for (int other = 0; other < now.keys.size(); other++) {
                    count += isAbove(now.keys, what == 3 ? other : key, what == 3 ? key : other) ? 1 : 0;
                }
                return count;
            default:
                for (int door = 0; door < now.doors.size(); door++) {
                    Door there = now.doors.get(door);
                    if (what == 5 ? opens(it.code, there) : isRight(now.keys, key, there.owner)) {
                        count += 1 << door;
                    }
                }
                return count;
        }
    }

    int door(int door, int what) {
        needDoor(door);
        needArgument(what >= 0 && what <= 8);
        Door it = now.doors.get(door);
        switch (what) {
            case 0:
                return it.owner;
            case 1:
                return it.pins.stream().mapToInt(TreeSet::size).sum();
            case 5:
                return (int) allCodes().stream().filter(code -> isGhost(code, it)).count();
            case 7:
                return changes(it, fitted(now.keys, it.owner));
            case 8:
                return (int) allCodes().stream().filter(code -> opens(code, it)).count();
            default:
                return doorKeys(it, what);
        }
    }

    private boolean isGhost(String code, Door door) {
        int reason = reasonOf(-1, code);
        return (reason == 0 || reason == 4) && opens(code, door)
                && now.keys.stream().noneMatch(key -> key.code.equals(code));
    }

    private int doorKeys(Door door, int what) {
        int openers = 0;
        int right = 0;
        int wrong = 0;
        int exposed = 0;
        for (int key = 0; key < now.keys.size(); key++) {
            boolean opens = opens(now.keys.get(key).code, door);
            boolean isRight = isRight(now.keys, key, door.owner);
            openers += opens ? 1 << key : 0;
            right += isRight ? 1 << key : 0;
            wrong += opens != isRight ? 1 : 0;
            exposed = opens && now.keys.get(key).lost ? 1 : exposed;
        }
        return what == 2 ? openers : what == 3 ? right : what == 4 ? wrong : exposed;
    }

    int pins(int door, int chamber) {
        needDoor(door);
        if (chamber < 0 || chamber >= now.chambers) {
            throw new IndexOutOfBoundsException();
        }
        return now.doors.get(door).pins.get(chamber).stream().mapToInt(pin -> 1 << pin).sum();
    }

    private int sum(int what) {
        int sum = 0;
        for (int door = 0; door < now.doors.size(); door++) {
            sum += door(door, what);
        }
        return sum;
    }

    int whole(int what) {
        needArgument(what >= 0 && what <= 13);
        return switch (what) {
            case 0 -> now.chambers;
            case 1 -> now.depths;
            case 2, 3, 4 -> now.rules.get(what - 2);
            case 5 -> now.keys.size();
            case 6 -> now.doors.size();
            case 7 -> (int) now.keys.stream().filter(Key::lost).count();
            case 8 -> sum(4);
            case 9 -> sum(5);
            case 10 -> sum(6);
            case 11 -> works().size();
            case 12 -> sum(1);
            default -> text.length();
        };
    }

    private List<Integer> works() {
        ArrayList<Integer> works = new ArrayList<>();
        for (int door = 0; door < now.doors.size(); door++) {
            if (door(door, 7) > 0) {
                works.add(door);
            }
        }
        works.sort(Comparator.comparing((Integer door) -> -door(door, 6))
                .thenComparing(door -> -door(door, 4))
                .thenComparing(door -> door(door, 7))
                .thenComparing(door -> door));
        return works;
    }

    int work(int index, int what) {
        needArgument(index >= 0 && what >= 0 && what <= 2);
        List<Integer> works = works();
        if (index >= works.size()) {
            return -1;
        }
        int door = works.get(index);
        return what == 0 ? door : door(door, what == 1 ? 7 : 4);
    }

    int byCode(int index) {
        needArgument(index >= 0);
        ArrayList<Integer> order = new ArrayList<>();
        for (int key = 0; key < now.keys.size(); key++) {
            order.add(key);
        }
        order.sort(Comparator.comparing(key -> now.keys.get(key).code));
        return index < order.size() ? order.get(index) : -1;
    }

    // ---- what if

    int freeCodes() {
        return (int) allCodes().stream().filter(code -> reasonOf(-1, code) == 0).count();
    }

    private boolean isBetter(int key, String code) {
        for (Door door : now.doors) {
            if (opens(code, door) && !isRight(now.keys, key, door.owner)) {
                return false;
            }
        }
        return reasonOf(key, code) == 0 && !code.equals(now.keys.get(key).code);
    }

    int betterCode(int key) {
        needKey(key);
        String own = now.keys.get(key).code;
        return allCodes().stream().filter(code -> isBetter(key, code))
                .min(Comparator.comparing((String code) -> difference(code, own))
                        .thenComparing(code -> distance(code, own))
                        .thenComparing(code -> code))
                .map(Integer::parseInt).orElse(-1);
    }

    int pinsIfTurned(int key) {
        needKey(key);
        Key it = now.keys.get(key);
        return changesIf(with(now.keys, key, new Key(it.code, it.master, !it.lost)));
    }

    int pinsIfCut(int key, int code) {
        needKey(key);
        if (reason(key, code) != 0) {
            return -1;
        }
        Key it = now.keys.get(key);
        return changesIf(with(now.keys, key, new Key(digits(code), it.master, it.lost)));
    }

    // ---- command text

    int type(int value) {
        needArgument(value >= 0 && value <= 127);
        needState(text.length() < 150);
        text += (char) value;
        return text.length();
    }

    int clearCommands() {
        int length = text.length();
        text = "";
        return length;
    }

    private static boolean canGoOn(String prefix) {
        Matcher matcher = COMMANDS.matcher(prefix);
        return matcher.matches() || matcher.hitEnd();
    }

    private static boolean isLetterAt(String text, int place) {
        return place >= 0 && place < text.length() && text.charAt(place) >= 'a' && text.charAt(place) <= 'z';
    }

    /** Finds the longest part in front that could go on, then asks whether a word is to blame. */
    private int fault() {
        if (COMMANDS.matcher(text).matches()) {
            return -1;
        }
        int place = 0;
        while (place < text.length() && canGoOn(text.substring(0, place + 1))) {
            place++;
        }
        int start = place;
        while (isLetterAt(text, start - 1)) {
            start--;
        }
        int end = place;
        while (isLetterAt(text, end)) {
            end++;
        }
        boolean isCommandWord = start < end && COMMANDS.matcher(text.substring(0, start)).matches();
        boolean isKnown = WORD.matcher(text.substring(start, end)).matches();
        return isCommandWord && !isKnown ? start : place;
    }

    int runCommands() {
        int fault = fault();
        if (fault >= 0) {
            return -10 - fault;
        }
        save();
        List<State> stack = List.copyOf(saved);
        int done = 0;
        try {
            for (String command : text.split(";")) {
                if (!command.isBlank()) {
                    carryOut(command.trim().split(" +"));
                    done++;
                }
            }
        } catch (IndexOutOfBoundsException | IllegalArgumentException | IllegalStateException e) {
            // The command does not count, and the run ends normally.
        }
        saved.clear();
        saved.addAll(stack);
        return done;
    }

    private void carryOut(String[] parts) {
        int first = parts.length > 1 ? Integer.parseInt(parts[1]) : 0;
        int second = parts.length > 2 ? Integer.parseInt(parts[2]) : 0;
        switch (parts[0]) {
            case "master" -> addKey(first, -1);
            case "key" -> addKey(first, second);
            case "door" -> addDoor(first);
            case "pin" -> pin(first, second);
            case "fit" -> fit(first);
            case "lose" -> lose(first);
            case "find" -> find(first);
            case "cut" -> recut(first, second);
            case "rule" -> setRule(first, second);
            default -> fitAll();
        }
    }

    int undo() {
        needState(!saved.isEmpty());
        now = saved.remove(saved.size() - 1);
        return saved.size();
    }

    long digest() {
        ArrayList<Integer> values = new ArrayList<>();
        values.add(saved.size());
        for (int what = 0; what <= 13; what++) {
            values.add(whole(what));
        }
        for (int key = 0; key < now.keys.size(); key++) {
            for (int what = 0; what <= 6; what++) {
                values.add(key(key, what));
            }
        }
        for (int door = 0; door < now.doors.size(); door++) {
            for (int what = 0; what <= 8; what++) {
                values.add(door(door, what));
            }
            for (int chamber = 0; chamber < now.chambers; chamber++) {
                values.add(pins(door, chamber));
            }
        }
        for (int index = 0; index < works().size(); index++) {
            for (int what = 0; what <= 2; what++) {
                values.add(work(index, what));
            }
        }
        for (int index = 0; index < now.keys.size(); index++) {
            values.add(byCode(index));
        }
        values.add(freeCodes());
        long hash = 43378;
        for (int value : values) {
            hash = 31 * hash + value;
        }
        return hash;
    }
}
