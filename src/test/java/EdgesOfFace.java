import java.io.IOException;
import java.lang.reflect.Constructor;
import java.lang.reflect.Field;
import java.lang.reflect.Method;
import java.lang.reflect.Modifier;
import java.nio.file.Files;
import java.nio.file.Path;
import java.util.List;
import java.util.Set;
import java.util.TreeSet;
import java.util.regex.Pattern;

/** The public face: that it is there as the document writes it, and nothing else. */
final class EdgesOfFace {
    private static final String FACE = "The public face";
    private static final String CONSTANTS = "The constants:";
    private static final Path SOURCE = Path.of("src", "main", "java", "MasterPins.java");

    private static final String NO_SUCH = "IndexOutOfBoundsException";
    private static final String WRONG = "IllegalArgumentException";
    private static final String NOT_NOW = "IllegalStateException";

    private static final String[] METHODS = {
        "public int begin(int chambers, int depths) throws " + WRONG + ";",
        "public int setRule(int rule, int value) throws " + WRONG + ";",
        "public int addKey(int code, int master) throws " + NO_SUCH + ", " + WRONG + ", " + NOT_NOW + ";",
        "public int recut(int key, int code) throws " + NO_SUCH + ", " + WRONG + ";",
        "public int lose(int key) throws " + NO_SUCH + ", " + NOT_NOW + ";",
        "public int find(int key) throws " + NO_SUCH + ", " + NOT_NOW + ";",
        "public int addDoor(int owner) throws " + NO_SUCH + ", " + NOT_NOW + ";",
        "public int pin(int door, int key) throws " + NO_SUCH + ";",
        "public int fit(int door) throws " + NO_SUCH + ";",
        "public int fitAll();",
        "public int setOwner(int door, int key) throws " + NO_SUCH + ";",
        "public int key(int key, int what) throws " + NO_SUCH + ", " + WRONG + ";",
        "public int door(int door, int what) throws " + NO_SUCH + ", " + WRONG + ";",
        "public int pins(int door, int chamber) throws " + NO_SUCH + ";",
        "public int whole(int what) throws " + WRONG + ";",
        "public int work(int index, int what) throws " + WRONG + ";",
        "public int byCode(int index) throws " + WRONG + ";",
        "public int reason(int key, int code) throws " + NO_SUCH + ";",
        "public int freeCodes();",
        "public int betterCode(int key) throws " + NO_SUCH + ";",
        "public int pinsIfTurned(int key) throws " + NO_SUCH + ";",
        "public int pinsIfCut(int key, int code) throws " + NO_SUCH + ";",
        "public int type(int value) throws " + WRONG + ", " + NOT_NOW + ";",
        "public int clearCommands();",
        "public int runCommands();",
        "public int undo() throws " + NOT_NOW + ";",
        "public long digest();",
    };

    private EdgesOfFace() {
    }

    static void run() throws IOException {
        calls512();
        theClass();
        theConstant();
        theConstructor();
        theMethods();
        nothingElse();
        wholeNumbers();
        none();
        headlines();
    }

    private static void calls512() {
        Check.sentence("What it is", "An object is used for at most 512 calls after it has been made");
        MasterPins x = new MasterPins();
        for (int call = 1; call <= 511; call++) {
            Check.same("call " + call, x.setRule(0, call % 6), call == 1 ? 5 : (call - 1) % 6);
        }
        Check.same("call 512", x.whole(2), 511 % 6);
        MasterPins typed = new MasterPins();
        for (int call = 1; call <= 150; call++) {
            Check.same("call " + call, typed.type(' '), call);
        }
        for (int call = 151; call <= 511; call++) {
            Check.thrown("call " + call, Check.STATE, () -> typed.type(' '));
        }
        Check.same("call 512 of a full text", typed.clearCommands(), 150);
    }

    private static void theClass() {
        Check.sentence(FACE, "public final class MasterPins {");
        Check.same("modifiers", MasterPins.class.getModifiers(), Modifier.PUBLIC | Modifier.FINAL);
        Check.isTrue("without a package", MasterPins.class.getPackageName().isEmpty());
    }

    private static void theConstant() {
        Check.sentence(FACE, "public static final int NONE = -1;");
        Set<String> names = new TreeSet<>();
        for (Field field : MasterPins.class.getDeclaredFields()) {
            if (!Modifier.isPrivate(field.getModifiers())) {
                names.add(Modifier.toString(field.getModifiers()) + " " + field.getType() + " " + field.getName());
            }
        }
        Check.isTrue("the only field that is not private: " + names,
                names.equals(Set.of("public static final int NONE")));
        Check.same("its value", MasterPins.NONE, -1);
    }

    private static void theConstructor() {
        Check.sentence(FACE, "public MasterPins();");
        Constructor<?>[] constructors = MasterPins.class.getDeclaredConstructors();
        Check.same("constructors", constructors.length, 1);
        Check.same("modifiers", constructors[0].getModifiers(), Modifier.PUBLIC);
        Check.same("arguments", constructors[0].getParameterCount(), 0);
        Check.same("exceptions", constructors[0].getExceptionTypes().length, 0);
    }

    private static String written(Method method) {
        StringBuilder text = new StringBuilder(Modifier.toString(method.getModifiers()));
        text.append(' ').append(method.getReturnType()).append(' ').append(method.getName()).append('(');
        String between = "";
        for (Class<?> type : method.getParameterTypes()) {
            text.append(between).append(type);
            between = ", ";
        }
        text.append(')');
        between = " throws ";
        for (Class<?> type : method.getExceptionTypes()) {
            text.append(between).append(type.getSimpleName());
            between = ", ";
        }
        return text.append(';').toString();
    }

    private static void theMethods() {
        Set<String> there = new TreeSet<>();
        for (Method method : MasterPins.class.getDeclaredMethods()) {
            there.add(written(method));
        }
        for (String line : METHODS) {
            Check.sentence(FACE, line);
            String withoutNames = Pattern.compile("int [a-z]+(?=[,)])").matcher(line).replaceAll("int");
            Check.isTrue("is there", there.contains(withoutNames));
        }
    }

    private static void nothingElse() {
        Check.sentence(FACE, "public final class MasterPins {");
        int open = 0;
        Set<String> openNames = new TreeSet<>();
        Set<String> hiddenNames = new TreeSet<>();
        for (Method method : MasterPins.class.getDeclaredMethods()) {
            if (!method.isSynthetic()) {
                boolean isHidden = Modifier.isPrivate(method.getModifiers());
                open += isHidden ? 0 : 1;
                (isHidden ? hiddenNames : openNames).add(method.getName());
            }
        }
        Check.same("methods that are not private", open, METHODS.length);
        hiddenNames.retainAll(openNames);
        Check.isTrue("no private method bears the name of a public one: " + hiddenNames, hiddenNames.isEmpty());
    }

    private static void wholeNumbers() {
        Check.sentence("Terms", "All numbers are whole.");
        for (Method method : MasterPins.class.getDeclaredMethods()) {
            if (Modifier.isPublic(method.getModifiers())) {
                Class<?> type = method.getReturnType();
                Check.isTrue("answer of " + method.getName(), type == int.class || type == long.class);
            }
        }
    }

    private static void none() {
        Check.sentence(CONSTANTS, "`NONE = -1`: Returned where there is no such value; also the master of a key without one.");
        MasterPins x = Systems.withKeys(2, 2, 0, 1, 10, 11);
        Check.same("no work", x.work(0, 0), MasterPins.NONE);
        Check.same("no key at this place", x.byCode(4), MasterPins.NONE);
        Check.same("no better code", x.betterCode(0), MasterPins.NONE);
        Check.same("a code that cannot be given", x.pinsIfCut(0, 11), MasterPins.NONE);
        Check.same("a key without a master", x.key(3, 1), MasterPins.NONE);
    }

    private static void headlines() throws IOException {
        List<String> lines = Files.readAllLines(SOURCE);
        headline(lines, "keys", "Ahead of the calls `begin`, `setRule`, `addKey`, `recut`, `lose`, `find` "
                + "the interface says: ---- keys.", "public MasterPins()", "public int begin(");
        headline(lines, "doors", "Ahead of the calls `addDoor`, `pin`, `fit`, `fitAll`, `setOwner` "
                + "the interface says: ---- doors.", "public int find(", "public int addDoor(");
        headline(lines, "values", "Ahead of the calls `key`, `door`, `pins`, `whole`, `work`, `byCode` "
                + "the interface says: ---- values.", "public int setOwner(", "public int key(");
        headline(lines, "what if, which changes nothing", "Ahead of the calls `reason`, `freeCodes`, "
                + "`betterCode`, `pinsIfTurned`, `pinsIfCut` the interface says: ---- what if, which changes nothing.",
                "public int byCode(", "public int reason(");
        headline(lines, "command text, undo and checksum", "Ahead of the calls `type`, `clearCommands`, "
                + "`runCommands`, `undo`, `digest` the interface says: ---- command text, undo and checksum.",
                "public int pinsIfCut(", "public int type(");
    }

    private static void headline(List<String> lines, String words, String sentence, String above, String below) {
        Check.sentence(CONSTANTS, sentence);
        int place = placeOf(lines, "// ---- " + words);
        Check.isTrue("behind " + above, place > placeOf(lines, above) && placeOf(lines, above) >= 0);
        Check.isTrue("ahead of " + below, place < placeOf(lines, below));
    }

    private static int placeOf(List<String> lines, String words) {
        for (int place = 0; place < lines.size(); place++) {
            if (lines.get(place).contains(words)) {
                return place;
            }
        }
        return -1;
    }
}
