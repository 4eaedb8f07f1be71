/**
 * A locksmith's master key systems: keys as cuts that obey rules, a tree of keys, doors whose
 * cylinders are sets of pins, and what follows from them: works, ghosts, free codes, what-if
 * questions, texts of commands and undo.
 */
public final class MasterPins {

    /** Returned where there is no such value; also the master of a key without one. */
    public static final int NONE = -1;

    // What a call would throw: a command of a text is looked at by these and never throws.
    private static final int FINE = 0;
    private static final int NO_SUCH = 1;
    private static final int BAD_VALUE = 2;
    private static final int NOT_NOW = 3;

    private static final int LAST_OF_KEY = 6;
    private static final int LAST_OF_DOOR = 8;
    private static final int LAST_OF_WHOLE = 13;
    private static final int LAST_OF_WORK = 2;

    private static final int FAULT_BASE = -10;
    private static final long DIGEST_START = 43378L;

    private final Plan plan;
    private final Survey survey;
    private final UndoStack saved;
    private final CommandText text;

    /**
     * Creates a system of 3 chambers and 5 depths without keys and doors, with the rules as at
     * first, an empty command text and an empty undo stack.
     */
    public MasterPins() {
        plan = new Plan();
        survey = new Survey(plan);
        saved = new UndoStack();
        text = new CommandText();
    }

    // ---- keys

    /**
     * Begins with another system, without keys and doors; the rules stay. Undoable.
     *
     * @param chambers 2 to 4
     * @param depths 2 to 6
     * @return the number of doors that there were
     * @throws IllegalArgumentException if an argument is out of range
     */
    public int begin(int chambers, int depths) throws IllegalArgumentException {
        if (chambers < 2 || chambers > Cuts.MOST_CHAMBERS || depths < 2 || depths > Cuts.MOST_DEPTHS) {
            throw new IllegalArgumentException("chambers or depths out of range");
        }
        saved.save(plan);
        return plan.startAnew(chambers, depths);
    }

    /**
     * Sets a rule. Undoable.
     *
     * @param rule 0 greatest step, 1 least variety, 2 least difference
     * @param value the new value, in its range
     * @return the previous value
     * @throws IllegalArgumentException if rule or value is out of range
     */
    public int setRule(int rule, int value) throws IllegalArgumentException {
        refuse(plan.refusalOfRule(rule, value));
        saved.save(plan);
        return plan.changeRule(rule, value);
    }

    /**
     * Adds a key. Undoable.
     *
     * @param code any number
     * @param master number of a key, or NONE
     * @return the number of the key
     * @throws IndexOutOfBoundsException if master is neither NONE nor a key
     * @throws IllegalArgumentException if the code cannot be given to a new key
     * @throws IllegalStateException if there are 16 keys
     */
    public int addKey(int code, int master)
            throws IndexOutOfBoundsException, IllegalArgumentException, IllegalStateException {
        refuse(plan.refusalOfNewKey(code, master));
        saved.save(plan);
        return plan.makeKey(code, master);
    }

    /**
     * Cuts a key anew, with another code or the same one; cylinders stay. Undoable.
     *
     * @param key number of a key
     * @param code any number
     * @return the number of chambers in which the code differs from the previous one
     * @throws IndexOutOfBoundsException if there is no such key
     * @throws IllegalArgumentException if the code cannot be given to the key
     */
    public int recut(int key, int code) throws IndexOutOfBoundsException, IllegalArgumentException {
        refuse(plan.refusalOfCut(key, code));
        saved.save(plan);
        return plan.cutAnew(key, code);
    }

    /**
     * Tells that a key is lost. Undoable.
     *
     * @param key number of a key
     * @return the number of doors that its code opens
     * @throws IndexOutOfBoundsException if there is no such key
     * @throws IllegalStateException if it is lost
     */
    public int lose(int key) throws IndexOutOfBoundsException, IllegalStateException {
        refuse(plan.refusalOfLoss(key));
        saved.save(plan);
        return plan.markLost(key);
    }

    /**
     * Tells that a lost key was found. Undoable.
     *
     * @param key number of a key
     * @return the number of keys that are lost then
     * @throws IndexOutOfBoundsException if there is no such key
     * @throws IllegalStateException if it is not lost
     */
    public int find(int key) throws IndexOutOfBoundsException, IllegalStateException {
        refuse(plan.refusalOfFinding(key));
        saved.save(plan);
        return plan.markFound(key);
    }

    // ---- doors

    /**
     * Adds a door, which is fitted. Undoable.
     *
     * @param owner number of a key
     * @return the number of the door
     * @throws IndexOutOfBoundsException if there is no such key
     * @throws IllegalStateException if there are 12 doors
     */
    public int addDoor(int owner) throws IndexOutOfBoundsException, IllegalStateException {
        refuse(plan.refusalOfNewDoor(owner));
        saved.save(plan);
        return plan.hangDoor(owner);
    }

    /**
     * Adds the cuts of a key to the pins of a door. Undoable.
     *
     * @param door number of a door
     * @param key number of a key
     * @return the number of pins that were added
     * @throws IndexOutOfBoundsException if there is no such door or key
     */
    public int pin(int door, int key) throws IndexOutOfBoundsException {
        refuse(plan.refusalOfPair(door, key));
        saved.save(plan);
        return plan.addPinsOf(door, key);
    }

    /**
     * Fits a door. Undoable.
     *
     * @param door number of a door
     * @return the number of pins that change
     * @throws IndexOutOfBoundsException if there is no such door
     */
    public int fit(int door) throws IndexOutOfBoundsException {
        refuse(plan.refusalOfDoor(door));
        saved.save(plan);
        return plan.fitOne(door);
    }

    /**
     * Fits all doors. Undoable.
     *
     * @return the number of pins that change, in all
     */
    public int fitAll() {
        saved.save(plan);
        return plan.fitEvery();
    }

    /**
     * Gives a door another owner; its cylinder stays. Undoable.
     *
     * @param door number of a door
     * @param key number of a key
     * @return the previous owner
     * @throws IndexOutOfBoundsException if there is no such door or key
     */
    public int setOwner(int door, int key) throws IndexOutOfBoundsException {
        refuse(plan.refusalOfPair(door, key));
        saved.save(plan);
        return plan.handOver(door, key);
    }

    // ---- values

    /**
     * Returns a value of a key.
     *
     * @param key number of a key
     * @param what 0 code, 1 master (NONE without one), 2 1 if it is lost or 0 if not, 3 number of
     *     keys above it, 4 number of keys of which it is one of the keys above, 5 set of the doors
     *     that its code opens, bit d for the door d, 6 set of the doors of which it is a right key
     * @return that value
     * @throws IndexOutOfBoundsException if there is no such key
     * @throws IllegalArgumentException if what is out of range
     */
    public int key(int key, int what) throws IndexOutOfBoundsException, IllegalArgumentException {
        refuse(plan.refusalOfKey(key));
        refuse(refusalOfWhat(what, LAST_OF_KEY));
        return plan.valueOfKey(key, what);
    }

    /**
     * Returns a value of a door.
     *
     * @param door number of a door
     * @param what 0 owner, 1 number of its pins, 2 set of the keys whose codes open it, bit k for
     *     the key k, 3 set of its right keys, 4 number of its wrong keys, 5 number of its ghosts,
     *     6 1 if it is exposed or 0 if not, 7 pins that would change if it were fitted now, 8
     *     number of codes that open it, obeying rules or not
     * @return that value
     * @throws IndexOutOfBoundsException if there is no such door
     * @throws IllegalArgumentException if what is out of range
     */
    public int door(int door, int what) throws IndexOutOfBoundsException, IllegalArgumentException {
        refuse(plan.refusalOfDoor(door));
        refuse(refusalOfWhat(what, LAST_OF_DOOR));
        survey.refresh();
        return survey.valueOfDoor(door, what);
    }

    /**
     * Returns the pins of a chamber of a door.
     *
     * @param door number of a door
     * @param chamber number of a chamber
     * @return the set, bit p for the pin p
     * @throws IndexOutOfBoundsException if there is no such door or chamber
     */
    public int pins(int door, int chamber) throws IndexOutOfBoundsException {
        refuse(plan.refusalOfChamber(door, chamber));
        return plan.pinsInChamber(door, chamber);
    }

    /**
     * Returns a value of the whole.
     *
     * @param what 0 chambers, 1 depths, 2 to 4 the rules 0 to 2, 5 keys, 6 doors, 7 lost keys, 8
     *     sum of the numbers of wrong keys of all doors, 9 sum of the numbers of ghosts of all
     *     doors, 10 exposed doors, 11 works, 12 pins of all doors, 13 length of the command text
     * @return that value
     * @throws IllegalArgumentException if what is out of range
     */
    public int whole(int what) throws IllegalArgumentException {
        refuse(refusalOfWhat(what, LAST_OF_WHOLE));
        survey.refresh();
        return valueOfWhole(what);
    }

    /**
     * Returns a value of a work.
     *
     * @param index 0 for the first one, and so on
     * @param what 0 door, 1 pins that change, 2 wrong keys that the door has now
     * @return that value; NONE if there are not so many
     * @throws IllegalArgumentException if index is negative, or what is out of range
     */
    public int work(int index, int what) throws IllegalArgumentException {
        refuse(refusalOfIndex(index));
        refuse(refusalOfWhat(what, LAST_OF_WORK));
        survey.refresh();
        return survey.valueOfWork(index, what);
    }

    /**
     * Returns a key in the order of codes.
     *
     * @param index 0 for the key with the lowest code, and so on
     * @return the key; NONE if there are not so many
     * @throws IllegalArgumentException if index is negative
     */
    public int byCode(int index) throws IllegalArgumentException {
        refuse(refusalOfIndex(index));
        return plan.keyAtRank(index);
    }

    // ---- what if, which changes nothing

    /**
     * Tells why a code cannot be given to a key.
     *
     * @param key number of a key, or NONE for a new one
     * @param code any number
     * @return the reason, 1 to 4; 0 if it can be given
     * @throws IndexOutOfBoundsException if key is neither NONE nor a key
     */
    public int reason(int key, int code) throws IndexOutOfBoundsException {
        refuse(plan.refusalOfKeyOrNone(key));
        return plan.reasonAgainst(key, code);
    }

    /**
     * Counts the codes that could be given to a new key (also if there are 16 keys).
     *
     * @return the number
     */
    public int freeCodes() {
        survey.refresh();
        return survey.countFree();
    }

    /**
     * Returns the best other code for a key: one that can be given to it, is not its code, and
     * opens no door of which the key is no right key (a lost key is a right key of no door).
     *
     * @param key number of a key
     * @return the one that differs in the fewest chambers, of several that with the least sum of
     *     the sizes of the differences of cuts, of several the lowest one; NONE if there is none
     * @throws IndexOutOfBoundsException if there is no such key
     */
    public int betterCode(int key) throws IndexOutOfBoundsException {
        refuse(plan.refusalOfKey(key));
        survey.refresh();
        return survey.bestOtherCode(key);
    }

    /**
     * Tells how many pins would change, from how they are now, if a key were lost (or found, if it
     * is lost) and all doors were fitted then.
     *
     * @param key number of a key
     * @return the number
     * @throws IndexOutOfBoundsException if there is no such key
     */
    public int pinsIfTurned(int key) throws IndexOutOfBoundsException {
        refuse(plan.refusalOfKey(key));
        return plan.changesIfTurned(key);
    }

    /**
     * Tells how many pins would change, from how they are now, if a key were cut anew with a code
     * (perhaps its own), and all doors were fitted then.
     *
     * @param key number of a key
     * @param code any number
     * @return the number; NONE if the code cannot be given to the key
     * @throws IndexOutOfBoundsException if there is no such key
     */
    public int pinsIfCut(int key, int code) throws IndexOutOfBoundsException {
        refuse(plan.refusalOfKey(key));
        return plan.changesIfCut(key, code);
    }

    // ---- command text, undo and checksum

    /**
     * Appends a byte to the command text.
     *
     * @param value 0 to 127
     * @return the length of the text
     * @throws IllegalArgumentException if value is out of range
     * @throws IllegalStateException if the text has 150 bytes
     */
    public int type(int value) throws IllegalArgumentException, IllegalStateException {
        refuse(text.refusalOfByte(value));
        return text.append(value);
    }

    /**
     * Empties the command text.
     *
     * @return the length that it had
     */
    public int clearCommands() {
        return text.empty();
    }

    /**
     * Runs the command text, which stays as it is. Undoable, if it has no fault.
     *
     * @return the number of commands that were carried out; -10 minus the fault if it has one
     */
    public int runCommands() {
        int fault = text.fault();
        if (fault != NONE) {
            return FAULT_BASE - fault;
        }
        saved.save(plan);
        text.goToStart();
        for (int done = 0; done < CommandText.LIMIT; done++) {
            Word word = text.nextWord();
            if (word == null || refusalOfCommand(word, text.first, text.second) != FINE) {
                return done;
            }
            carryOut(word, text.first, text.second);
        }
        return CommandText.LIMIT;
    }

    /**
     * Restores the latest saved state and removes it from the undo stack.
     *
     * @return the number of states that are left on the stack
     * @throws IllegalStateException if the stack is empty
     */
    public int undo() throws IllegalStateException {
        if (saved.isEmpty()) {
            throw new IllegalStateException("the undo stack is empty");
        }
        return saved.restoreInto(plan);
    }

    /**
     * Returns a hash of the state. It starts with h = 43378. For each of the following values v, in
     * this order, h becomes 31 * h + v (long arithmetic, overflow wraps). the number of states on
     * the undo stack; whole() of 0 to 13; for each key key() of 0 to 6; for each door door() of 0
     * to 8 and pins() of each chamber; for each work work() of 0 to 2; for each place in the order
     * of codes byCode(); freeCodes().
     *
     * @return the hash
     */
    public long digest() {
        survey.refresh();
        long hash = mixed(DIGEST_START, saved.size);
        for (int what = 0; what <= LAST_OF_WHOLE; what++) {
            hash = mixed(hash, valueOfWhole(what));
        }
        hash = mixedWithKeys(hash);
        hash = mixedWithDoors(hash);
        hash = mixedWithWorks(hash);
        for (int rank = 0; rank < plan.keyCount; rank++) {
            hash = mixed(hash, plan.keyAtRank(rank));
        }
        return mixed(hash, survey.countFree());
    }

    private static void refuse(int refusal) {
        switch (refusal) {
            case NO_SUCH:
                throw new IndexOutOfBoundsException("no such key, door or chamber");
            case BAD_VALUE:
                throw new IllegalArgumentException("a value is out of range, or a code cannot be given");
            case NOT_NOW:
                throw new IllegalStateException("not in this state");
            default:
                break;
        }
    }

    private static int refusalOfWhat(int what, int last) {
        return what < 0 || what > last ? BAD_VALUE : FINE;
    }

    private static int refusalOfIndex(int index) {
        return index < 0 ? BAD_VALUE : FINE;
    }

    private int valueOfWhole(int what) {
        switch (what) {
            case 0:
                return plan.chambers;
            case 1:
                return plan.depths;
            case 2:
            case 3:
            case 4:
                return plan.rule(what - 2);
            case 5:
                return plan.keyCount;
            case 6:
                return plan.doorCount;
            case 7:
                return plan.lostCount();
            case 8:
                return survey.sumOverDoors(Survey.WRONG_KEYS);
            case 9:
                return survey.sumOverDoors(Survey.GHOSTS);
            case 10:
                return survey.sumOverDoors(Survey.EXPOSED);
            case 11:
                return survey.workCount;
            case 12:
                return survey.sumOverDoors(Survey.PINS);
            default:
                return text.length;
        }
    }

    private int refusalOfCommand(Word word, int first, int second) {
        switch (word) {
            case MASTER:
                return plan.refusalOfNewKey(first, NONE);
            case KEY:
                return plan.refusalOfNewKey(first, second);
            case DOOR:
                return plan.refusalOfNewDoor(first);
            case PIN:
                return plan.refusalOfPair(first, second);
            case FIT:
                return plan.refusalOfDoor(first);
            case LOSE:
                return plan.refusalOfLoss(first);
            case FIND:
                return plan.refusalOfFinding(first);
            case CUT:
                return plan.refusalOfCut(first, second);
            case RULE:
                return plan.refusalOfRule(first, second);
            default:
                return FINE;
        }
    }

    private int carryOut(Word word, int first, int second) {
        switch (word) {
            case MASTER:
                return plan.makeKey(first, NONE);
            case KEY:
                return plan.makeKey(first, second);
            case DOOR:
                return plan.hangDoor(first);
            case PIN:
                return plan.addPinsOf(first, second);
            case FIT:
                return plan.fitOne(first);
            case LOSE:
                return plan.markLost(first);
            case FIND:
                return plan.markFound(first);
            case CUT:
                return plan.cutAnew(first, second);
            case RULE:
                return plan.changeRule(first, second);
            default:
                return plan.fitEvery();
        }
    }

    private static long mixed(long hash, int value) {
        return 31L * hash + value;
    }

    private long mixedWithKeys(long before) {
        long hash = before;
        for (int key = 0; key < plan.keyCount; key++) {
            for (int what = 0; what <= LAST_OF_KEY; what++) {
                hash = mixed(hash, plan.valueOfKey(key, what));
            }
        }
        return hash;
    }

    private long mixedWithDoors(long before) {
        long hash = before;
        for (int door = 0; door < plan.doorCount; door++) {
            for (int what = 0; what <= LAST_OF_DOOR; what++) {
                hash = mixed(hash, survey.valueOfDoor(door, what));
            }
            for (int chamber = 0; chamber < plan.chambers; chamber++) {
                hash = mixed(hash, plan.pinsInChamber(door, chamber));
            }
        }
        return hash;
    }

    private long mixedWithWorks(long before) {
        long hash = before;
        for (int index = 0; index < survey.workCount; index++) {
            for (int what = 0; what <= LAST_OF_WORK; what++) {
                hash = mixed(hash, survey.valueOfWork(index, what));
            }
        }
        return hash;
    }

    /**
     * Sets of cuts: bit 6 * chamber + cut. A key's cuts and a door's pins are both such sets, so
     * that they are compared in one step.
     */
    private static final class Cuts {
        static final int MOST_CHAMBERS = 4;
        static final int MOST_DEPTHS = 6;
        private static final int ONE_CHAMBER = 63;

        /** The code has to be one of the system: other digits would fall into the next chamber. */
        static int ofCode(int code, int chambers) {
            int set = 0;
            int rest = code;
            for (int chamber = chambers - 1; chamber >= 0; chamber--) {
                set |= 1 << (MOST_DEPTHS * chamber + rest % 10);
                rest /= 10;
            }
            return set;
        }

        static int inChamber(int set, int chamber) {
            return set >> (MOST_DEPTHS * chamber) & ONE_CHAMBER;
        }

        private static int cutIn(int cuts, int chamber) {
            return Integer.numberOfTrailingZeros(cuts >> (MOST_DEPTHS * chamber));
        }

        static boolean open(int cuts, int pins) {
            return (cuts & pins) == cuts;
        }

        static int differing(int cuts, int others, int chambers) {
            return chambers - Integer.bitCount(cuts & others);
        }

        static int distance(int cuts, int others, int chambers) {
            int sum = 0;
            for (int chamber = 0; chamber < chambers; chamber++) {
                sum += Math.abs(cutIn(cuts, chamber) - cutIn(others, chamber));
            }
            return sum;
        }

        static int greatestStep(int cuts, int chambers) {
            int greatest = 0;
            for (int chamber = 1; chamber < chambers; chamber++) {
                int step = Math.abs(cutIn(cuts, chamber) - cutIn(cuts, chamber - 1));
                greatest = Math.max(greatest, step);
            }
            return greatest;
        }

        static int variety(int cuts, int chambers) {
            int used = 0;
            for (int chamber = 0; chamber < chambers; chamber++) {
                used |= inChamber(cuts, chamber);
            }
            return Integer.bitCount(used);
        }

        static int combinations(int pins, int chambers) {
            int product = 1;
            for (int chamber = 0; chamber < chambers; chamber++) {
                product *= Integer.bitCount(inChamber(pins, chamber));
            }
            return product;
        }
    }

    /** The whole state but the command text: what the undo stack saves. */
    private static final class Plan {
        static final int MOST_KEYS = 16;
        static final int MOST_DOORS = 12;
        static final int GREATEST_STEP = 0;
        static final int LEAST_VARIETY = 1;
        static final int LEAST_DIFFERENCE = 2;
        private static final int RULES = 3;

        int chambers;
        int depths;
        private final int[] rules;
        int keyCount;
        private final int[] codes;
        private final int[] keyCuts;
        private final int[] masters;
        /** For each key the set of the keys above it; masters never change, so it never does. */
        private final int[] above;
        private int lost;
        int doorCount;
        private final int[] owners;
        private final int[] doorPins;

        Plan() {
            chambers = 3;
            depths = 5;
            rules = new int[RULES];
            rules[GREATEST_STEP] = 5;
            rules[LEAST_VARIETY] = 1;
            rules[LEAST_DIFFERENCE] = 1;
            codes = new int[MOST_KEYS];
            keyCuts = new int[MOST_KEYS];
            masters = new int[MOST_KEYS];
            above = new int[MOST_KEYS];
            owners = new int[MOST_DOORS];
            doorPins = new int[MOST_DOORS];
        }

        void copyFrom(Plan other) {
            chambers = other.chambers;
            depths = other.depths;
            System.arraycopy(other.rules, 0, rules, 0, RULES);
            keyCount = other.keyCount;
            System.arraycopy(other.codes, 0, codes, 0, MOST_KEYS);
            System.arraycopy(other.keyCuts, 0, keyCuts, 0, MOST_KEYS);
            System.arraycopy(other.masters, 0, masters, 0, MOST_KEYS);
            System.arraycopy(other.above, 0, above, 0, MOST_KEYS);
            lost = other.lost;
            doorCount = other.doorCount;
            System.arraycopy(other.owners, 0, owners, 0, MOST_DOORS);
            System.arraycopy(other.doorPins, 0, doorPins, 0, MOST_DOORS);
        }

        private boolean isKey(int key) {
            return key >= 0 && key < keyCount;
        }

        private boolean isDoor(int door) {
            return door >= 0 && door < doorCount;
        }

        private boolean isLost(int key) {
            return (lost >> key & 1) != 0;
        }

        int rule(int rule) {
            return rules[rule];
        }

        int refusalOfKey(int key) {
            return isKey(key) ? FINE : NO_SUCH;
        }

        int refusalOfKeyOrNone(int key) {
            return key == NONE || isKey(key) ? FINE : NO_SUCH;
        }

        int refusalOfDoor(int door) {
            return isDoor(door) ? FINE : NO_SUCH;
        }

        int refusalOfPair(int door, int key) {
            return isDoor(door) && isKey(key) ? FINE : NO_SUCH;
        }

        int refusalOfChamber(int door, int chamber) {
            return isDoor(door) && chamber >= 0 && chamber < chambers ? FINE : NO_SUCH;
        }

        int refusalOfRule(int rule, int value) {
            if (rule < 0 || rule >= RULES) {
                return BAD_VALUE;
            }
            int least = rule == GREATEST_STEP ? 0 : 1;
            int most = rule == GREATEST_STEP ? 5 : 4;
            return value < least || value > most ? BAD_VALUE : FINE;
        }

        int refusalOfNewKey(int code, int master) {
            if (master != NONE && !isKey(master)) {
                return NO_SUCH;
            }
            if (reasonAgainst(NONE, code) != 0) {
                return BAD_VALUE;
            }
            return keyCount >= MOST_KEYS ? NOT_NOW : FINE;
        }

        int refusalOfCut(int key, int code) {
            if (!isKey(key)) {
                return NO_SUCH;
            }
            return reasonAgainst(key, code) != 0 ? BAD_VALUE : FINE;
        }

        int refusalOfLoss(int key) {
            if (!isKey(key)) {
                return NO_SUCH;
            }
            return isLost(key) ? NOT_NOW : FINE;
        }

        int refusalOfFinding(int key) {
            if (!isKey(key)) {
                return NO_SUCH;
            }
            return isLost(key) ? FINE : NOT_NOW;
        }

        int refusalOfNewDoor(int owner) {
            if (!isKey(owner)) {
                return NO_SUCH;
            }
            return doorCount >= MOST_DOORS ? NOT_NOW : FINE;
        }

        int startAnew(int newChambers, int newDepths) {
            int doorsBefore = doorCount;
            chambers = newChambers;
            depths = newDepths;
            keyCount = 0;
            doorCount = 0;
            lost = 0;
            return doorsBefore;
        }

        int changeRule(int rule, int value) {
            int previous = rules[rule];
            rules[rule] = value;
            return previous;
        }

        int makeKey(int code, int master) {
            int key = keyCount;
            codes[key] = code;
            keyCuts[key] = Cuts.ofCode(code, chambers);
            masters[key] = master;
            above[key] = master == NONE ? 0 : above[master] | 1 << master;
            keyCount++;
            return key;
        }

        int cutAnew(int key, int code) {
            int previous = keyCuts[key];
            codes[key] = code;
            keyCuts[key] = Cuts.ofCode(code, chambers);
            return Cuts.differing(keyCuts[key], previous, chambers);
        }

        int markLost(int key) {
            lost |= 1 << key;
            return Integer.bitCount(doorsOpenedBy(keyCuts[key]));
        }

        int markFound(int key) {
            lost &= ~(1 << key);
            return Integer.bitCount(lost);
        }

        int hangDoor(int owner) {
            int door = doorCount;
            owners[door] = owner;
            doorPins[door] = pinsWhenFitted(door, lost, NONE, 0);
            doorCount++;
            return door;
        }

        int addPinsOf(int door, int key) {
            int before = doorPins[door];
            doorPins[door] = before | keyCuts[key];
            return Integer.bitCount(doorPins[door] ^ before);
        }

        int fitOne(int door) {
            int changes = changesOf(door);
            doorPins[door] = pinsWhenFitted(door, lost, NONE, 0);
            return changes;
        }

        int fitEvery() {
            int changes = 0;
            for (int door = 0; door < doorCount; door++) {
                changes += fitOne(door);
            }
            return changes;
        }

        int handOver(int door, int key) {
            int previous = owners[door];
            owners[door] = key;
            return previous;
        }

        private boolean isCode(int code) {
            if (code < 0) {
                return false;
            }
            int rest = code;
            for (int chamber = 0; chamber < chambers; chamber++) {
                if (rest % 10 >= depths) {
                    return false;
                }
                rest /= 10;
            }
            return rest == 0;
        }

        /** Which of the reasons 1 to 3 applies first; 0 if none does. */
        int reasonAgainstForm(int code) {
            if (!isCode(code)) {
                return 1;
            }
            int cuts = Cuts.ofCode(code, chambers);
            if (Cuts.greatestStep(cuts, chambers) > rules[GREATEST_STEP]) {
                return 2;
            }
            return Cuts.variety(cuts, chambers) < rules[LEAST_VARIETY] ? 3 : 0;
        }

        /** Tells whether cuts differ enough from those of all keys but the one that is left out. */
        boolean isApart(int cuts, int leftOut) {
            for (int key = 0; key < keyCount; key++) {
                if (key != leftOut
                        && Cuts.differing(cuts, keyCuts[key], chambers) < rules[LEAST_DIFFERENCE]) {
                    return false;
                }
            }
            return true;
        }

        int reasonAgainst(int key, int code) {
            int reason = reasonAgainstForm(code);
            if (reason != 0) {
                return reason;
            }
            return isApart(Cuts.ofCode(code, chambers), key) ? 0 : 4;
        }

        boolean isCutOfSomeKey(int cuts) {
            for (int key = 0; key < keyCount; key++) {
                if (keyCuts[key] == cuts) {
                    return true;
                }
            }
            return false;
        }

        int cutsOf(int key) {
            return keyCuts[key];
        }

        int ownerOf(int door) {
            return owners[door];
        }

        int pinsOf(int door) {
            return doorPins[door];
        }

        int pinsInChamber(int door, int chamber) {
            return Cuts.inChamber(doorPins[door], chamber);
        }

        int lostCount() {
            return Integer.bitCount(lost);
        }

        /** The owner of a door and the keys above it, lost or not. */
        private int lineOf(int door) {
            return above[owners[door]] | 1 << owners[door];
        }

        int rightKeys(int door) {
            return lineOf(door) & ~lost;
        }

        int openers(int door) {
            int set = 0;
            for (int key = 0; key < keyCount; key++) {
                if (Cuts.open(keyCuts[key], doorPins[door])) {
                    set |= 1 << key;
                }
            }
            return set;
        }

        int wrongKeys(int door) {
            return Integer.bitCount(openers(door) ^ rightKeys(door));
        }

        boolean isExposed(int door) {
            return (openers(door) & lost) != 0;
        }

        int doorsOpenedBy(int cuts) {
            int set = 0;
            for (int door = 0; door < doorCount; door++) {
                if (Cuts.open(cuts, doorPins[door])) {
                    set |= 1 << door;
                }
            }
            return set;
        }

        int doorsOfRightKey(int key) {
            int set = 0;
            for (int door = 0; door < doorCount; door++) {
                if ((rightKeys(door) >> key & 1) != 0) {
                    set |= 1 << door;
                }
            }
            return set;
        }

        private int keysBelow(int key) {
            int count = 0;
            for (int other = 0; other < keyCount; other++) {
                count += above[other] >> key & 1;
            }
            return count;
        }

        int valueOfKey(int key, int what) {
            switch (what) {
                case 0:
                    return codes[key];
                case 1:
                    return masters[key];
                case 2:
                    return isLost(key) ? 1 : 0;
                case 3:
                    return Integer.bitCount(above[key]);
                case 4:
                    return keysBelow(key);
                case 5:
                    return doorsOpenedBy(keyCuts[key]);
                default:
                    return doorsOfRightKey(key);
            }
        }

        /** No two keys have the same code, as the least difference is 1 at the least. */
        int keyAtRank(int rank) {
            for (int key = 0; key < keyCount; key++) {
                int lower = 0;
                for (int other = 0; other < keyCount; other++) {
                    lower += codes[other] < codes[key] ? 1 : 0;
                }
                if (lower == rank) {
                    return key;
                }
            }
            return NONE;
        }

        /** The pins of a fitted door if other keys were lost, and one key had other cuts. */
        private int pinsWhenFitted(int door, int lostThen, int changedKey, int cutsThen) {
            int right = lineOf(door) & ~lostThen;
            int pins = 0;
            for (int key = 0; key < keyCount; key++) {
                if ((right >> key & 1) != 0) {
                    pins |= key == changedKey ? cutsThen : keyCuts[key];
                }
            }
            return pins;
        }

        int changesOf(int door) {
            return Integer.bitCount(doorPins[door] ^ pinsWhenFitted(door, lost, NONE, 0));
        }

        private int changesIf(int lostThen, int changedKey, int cutsThen) {
            int changes = 0;
            for (int door = 0; door < doorCount; door++) {
                int then = pinsWhenFitted(door, lostThen, changedKey, cutsThen);
                changes += Integer.bitCount(doorPins[door] ^ then);
            }
            return changes;
        }

        int changesIfTurned(int key) {
            return changesIf(lost ^ 1 << key, NONE, 0);
        }

        int changesIfCut(int key, int code) {
            if (reasonAgainst(key, code) != 0) {
                return NONE;
            }
            return changesIf(lost, key, Cuts.ofCode(code, chambers));
        }
    }

    /** The latest saved states, the oldest one in front. */
    private static final class UndoStack {
        private static final int LIMIT = 4;

        private final Plan[] plans;
        int size;

        UndoStack() {
            plans = new Plan[LIMIT];
            for (int place = 0; place < LIMIT; place++) {
                plans[place] = new Plan();
            }
        }

        boolean isEmpty() {
            return size == 0;
        }

        void save(Plan plan) {
            if (size >= LIMIT) {
                dropOldest();
            }
            plans[size].copyFrom(plan);
            size++;
        }

        /** The dropped plan goes to the end to be written over, so that no new one is made. */
        private void dropOldest() {
            Plan oldest = plans[0];
            for (int place = 1; place < LIMIT; place++) {
                plans[place - 1] = plans[place];
            }
            plans[LIMIT - 1] = oldest;
            size--;
        }

        int restoreInto(Plan plan) {
            size--;
            plan.copyFrom(plans[size]);
            return size;
        }
    }

    /**
     * The codes to which the reasons 1 to 3 do not apply, lowest first. They are kept, since
     * counting ghosts door by door would else try all codes again for each door.
     */
    private static final class LawfulCodes {
        private static final int MOST = 1296;

        private final int[] codes;
        private final int[] cuts;
        int count;
        private int chambers;
        private int depths;
        private int greatestStep;
        private int leastVariety;

        LawfulCodes() {
            codes = new int[MOST];
            cuts = new int[MOST];
        }

        int code(int place) {
            return codes[place];
        }

        int cutsAt(int place) {
            return cuts[place];
        }

        boolean areOf(Plan plan) {
            return chambers == plan.chambers
                    && depths == plan.depths
                    && greatestStep == plan.rule(Plan.GREATEST_STEP)
                    && leastVariety == plan.rule(Plan.LEAST_VARIETY);
        }

        void collect(Plan plan) {
            chambers = plan.chambers;
            depths = plan.depths;
            greatestStep = plan.rule(Plan.GREATEST_STEP);
            leastVariety = plan.rule(Plan.LEAST_VARIETY);
            int limit = 1;
            for (int chamber = 0; chamber < plan.chambers; chamber++) {
                limit *= 10;
            }
            count = 0;
            for (int code = 0; code < limit; code++) {
                if (plan.reasonAgainstForm(code) == 0 && count < MOST) {
                    codes[count] = code;
                    cuts[count] = Cuts.ofCode(code, plan.chambers);
                    count++;
                }
            }
        }
    }

    /** What is found by looking through all codes, or through all doors. */
    private static final class Survey {
        static final int PINS = 1;
        static final int WRONG_KEYS = 4;
        static final int GHOSTS = 5;
        static final int EXPOSED = 6;

        private static final int PLACES_FOR_DOORS = 16;
        private static final int PLACES_FOR_PINS = 32;
        private static final int PLACES_FOR_KEYS = 32;
        private static final int MORE_THAN_DISTANCE = 100;

        private final Plan plan;
        private final LawfulCodes lawful;
        /** The works as numbers by their order; the door is what is left by 16. */
        private final int[] works;
        int workCount;

        Survey(Plan plan) {
            this.plan = plan;
            lawful = new LawfulCodes();
            works = new int[Plan.MOST_DOORS];
        }

        /** To be called first: ghosts, works and codes are read as the plan was at this call. */
        void refresh() {
            if (!lawful.areOf(plan)) {
                lawful.collect(plan);
            }
            listWorks();
        }

        int valueOfDoor(int door, int what) {
            switch (what) {
                case 0:
                    return plan.ownerOf(door);
                case PINS:
                    return Integer.bitCount(plan.pinsOf(door));
                case 2:
                    return plan.openers(door);
                case 3:
                    return plan.rightKeys(door);
                case WRONG_KEYS:
                    return plan.wrongKeys(door);
                case GHOSTS:
                    return countGhosts(door);
                case EXPOSED:
                    return plan.isExposed(door) ? 1 : 0;
                case 7:
                    return plan.changesOf(door);
                default:
                    return Cuts.combinations(plan.pinsOf(door), plan.chambers);
            }
        }

        private int countGhosts(int door) {
            int pins = plan.pinsOf(door);
            int ghosts = 0;
            for (int place = 0; place < lawful.count; place++) {
                int cuts = lawful.cutsAt(place);
                if (Cuts.open(cuts, pins) && !plan.isCutOfSomeKey(cuts)) {
                    ghosts++;
                }
            }
            return ghosts;
        }

        int sumOverDoors(int what) {
            int sum = 0;
            for (int door = 0; door < plan.doorCount; door++) {
                sum += valueOfDoor(door, what);
            }
            return sum;
        }

        private void listWorks() {
            workCount = 0;
            for (int door = 0; door < plan.doorCount; door++) {
                if (plan.changesOf(door) > 0) {
                    insertWork(orderOf(door));
                }
            }
        }

        /** A number that is lower for a work that comes earlier. */
        private int orderOf(int door) {
            int order = plan.isExposed(door) ? 0 : 1;
            order = order * PLACES_FOR_KEYS + Plan.MOST_KEYS - plan.wrongKeys(door);
            order = order * PLACES_FOR_PINS + plan.changesOf(door);
            return order * PLACES_FOR_DOORS + door;
        }

        private void insertWork(int order) {
            int place = workCount;
            while (place > 0 && works[place - 1] > order) {
                works[place] = works[place - 1];
                place--;
            }
            works[place] = order;
            workCount++;
        }

        int valueOfWork(int index, int what) {
            if (index >= workCount) {
                return NONE;
            }
            int door = works[index] % PLACES_FOR_DOORS;
            switch (what) {
                case 0:
                    return door;
                case 1:
                    return plan.changesOf(door);
                default:
                    return plan.wrongKeys(door);
            }
        }

        int countFree() {
            int free = 0;
            for (int place = 0; place < lawful.count; place++) {
                if (plan.isApart(lawful.cutsAt(place), NONE)) {
                    free++;
                }
            }
            return free;
        }

        int bestOtherCode(int key) {
            int best = NONE;
            int leastCost = 0;
            for (int place = 0; place < lawful.count; place++) {
                int cost = costOfChange(key, lawful.cutsAt(place));
                if ((best == NONE || cost < leastCost) && isBetter(key, lawful.cutsAt(place))) {
                    best = lawful.code(place);
                    leastCost = cost;
                }
            }
            return best;
        }

        private int costOfChange(int key, int cuts) {
            int own = plan.cutsOf(key);
            return Cuts.differing(cuts, own, plan.chambers) * MORE_THAN_DISTANCE
                    + Cuts.distance(cuts, own, plan.chambers);
        }

        private boolean isBetter(int key, int cuts) {
            return cuts != plan.cutsOf(key)
                    && plan.isApart(cuts, key)
                    && (plan.doorsOpenedBy(cuts) & ~plan.doorsOfRightKey(key)) == 0;
        }
    }

    /** The words of commands, each with how many numbers follow it. */
    private enum Word {
        MASTER("master", 1),
        KEY("key", 2),
        DOOR("door", 1),
        PIN("pin", 2),
        FIT("fit", 1),
        LOSE("lose", 1),
        FIND("find", 1),
        CUT("cut", 2),
        RULE("rule", 2),
        ALL("all", 0);

        private final String letters;
        private final int numbers;

        Word(String letters, int numbers) {
            this.letters = letters;
            this.numbers = numbers;
        }
    }

    /** The command text, and a reader that goes through it command by command. */
    private static final class CommandText {
        static final int LIMIT = 150;
        private static final Word[] WORDS = Word.values();
        private static final int GREATEST_BYTE = 127;
        private static final int MOST_DIGITS = 4;

        private final byte[] bytes;
        int length;
        private int place;
        private Word word;
        int first;
        int second;

        CommandText() {
            bytes = new byte[LIMIT];
        }

        int refusalOfByte(int value) {
            if (value < 0 || value > GREATEST_BYTE) {
                return BAD_VALUE;
            }
            return length >= LIMIT ? NOT_NOW : FINE;
        }

        int append(int value) {
            bytes[length] = (byte) value;
            length++;
            return length;
        }

        int empty() {
            int before = length;
            length = 0;
            return before;
        }

        void goToStart() {
            place = 0;
        }

        /** Returns the fault of the text, or NONE. */
        int fault() {
            goToStart();
            for (int commands = 0; commands <= LIMIT; commands++) {
                skipSpaces();
                if (place >= length) {
                    return NONE;
                }
                int fault = readCommand();
                if (fault != NONE) {
                    return fault;
                }
            }
            return NONE;
        }

        /** Reads the next command, and returns its word; null behind the last one. */
        Word nextWord() {
            skipSpaces();
            if (place >= length || readCommand() != NONE) {
                return null;
            }
            return word;
        }

        /** Goes behind the command that begins here; returns its fault, or NONE. */
        private int readCommand() {
            int start = place;
            skipLetters();
            word = wordBetween(start, place);
            if (word == null) {
                return start;
            }
            if (!readNumbers(word.numbers)) {
                return place;
            }
            skipSpaces();
            if (byteHere() != ';') {
                return place;
            }
            place++;
            return NONE;
        }

        /** Stops where a byte cannot stand, and tells then that it could not read them all. */
        private boolean readNumbers(int numbers) {
            first = numbers > 0 ? readNumber() : 0;
            if (first == NONE) {
                return false;
            }
            second = numbers > 1 ? readNumber() : 0;
            return second != NONE;
        }

        /** Goes behind a number and the spaces in front of it; NONE if a byte cannot stand. */
        private int readNumber() {
            int before = place;
            skipSpaces();
            if (place == before || !isDigit(byteHere())) {
                return NONE;
            }
            int number = 0;
            for (int digits = 0; digits < MOST_DIGITS && isDigit(byteHere()); digits++) {
                number = number * 10 + byteHere() - '0';
                place++;
            }
            return number;
        }

        /** The byte at the place that was reached, or NONE at the end of the text. */
        private int byteHere() {
            return place < length ? bytes[place] : NONE;
        }

        private static boolean isDigit(int value) {
            return value >= '0' && value <= '9';
        }

        private void skipSpaces() {
            while (place < length && bytes[place] == ' ') {
                place++;
            }
        }

        private void skipLetters() {
            while (place < length && bytes[place] >= 'a' && bytes[place] <= 'z') {
                place++;
            }
        }

        private Word wordBetween(int start, int end) {
            for (Word candidate : WORDS) {
                if (isWordAt(candidate.letters, start, end)) {
                    return candidate;
                }
            }
            return null;
        }

        private boolean isWordAt(String letters, int start, int end) {
            if (letters.length() != end - start) {
                return false;
            }
            for (int letter = 0; letter < letters.length(); letter++) {
                if (bytes[start + letter] != letters.charAt(letter)) {
                    return false;
                }
            }
            return true;
        }
    }
}
