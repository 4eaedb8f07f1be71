import java.io.IOException;
import java.lang.reflect.Field;
import java.lang.reflect.Method;
import java.lang.reflect.Modifier;
import java.nio.file.Files;
import java.nio.file.Path;
import java.util.ArrayList;
import java.util.HashSet;
import java.util.List;
import java.util.Map;
import java.util.Set;
import java.util.TreeMap;
import java.util.TreeSet;
import java.util.regex.Matcher;
import java.util.regex.Pattern;

/**
 * The rules of LANGUAGE.md that the class's own words, or what is declared in it, show: a change
 * that would be sent back fails here first. (EdgesOfFace has the face, RoomTest the room.)
 */
final class LanguageTest {
    private static final Path SOURCE = Path.of("src", "main", "java", "MasterPins.java");

    private static final int MOST_CLASSES = 12;
    private static final int MOST_FIELDS = 20;
    private static final int MOST_PARAMETERS = 7;
    private static final int MOST_LINES = 60;
    private static final int DEEPEST = 8;

    private static final Pattern NOT_CODE = Pattern.compile(
            "(?s)/\\*.*?\\*/|//[^\n]*|\"(?:\\\\.|[^\"\\\\\n])*\"|'(?:\\\\.|[^'\\\\\n])+'");
    private static final Pattern METHOD = Pattern.compile(
            "(?<![.\\w])(?<!new )(\\w+)\\(([^()]*)\\)\\s*(?:throws [\\w\\s,]+)?\\{");
    private static final Pattern CALL = Pattern.compile("(?<!\\w)(\\w+)\\(");
    private static final Set<String> NO_METHODS = Set.of("if", "for", "while", "switch", "catch", "return");

    private static final Set<String> LIBRARY = Set.of("String", "StringBuilder", "Integer", "Long", "Math",
            "System", "Arrays", "ArrayList", "List", "Iterator", "Iterable", "Comparable", "Override");
    private static final Set<String> EXCEPTIONS = Set.of("IllegalStateException", "IllegalArgumentException",
            "IndexOutOfBoundsException", "ArithmeticException", "UnsupportedOperationException",
            "NoSuchElementException", "RuntimeException");
    private static final Set<String> STATICS = Set.of("System.arraycopy(", "Arrays.copyOf(",
            "Arrays.copyOfRange(", "Arrays.fill(", "List.of(");
    private static final Set<String> NUMBER_FUNCTIONS = Set.of("compare", "max", "min", "abs", "bitCount",
            "floorDiv", "floorMod", "signum", "numberOfTrailingZeros", "numberOfLeadingZeros",
            "highestOneBit", "lowestOneBit");
    private static final Set<String> LIBRARY_METHODS = Set.of("length", "charAt", "isEmpty", "equals",
            "indexOf", "substring", "toCharArray", "append", "setCharAt", "setLength", "deleteCharAt",
            "reverse", "toString", "add", "get", "set", "remove", "size", "clear", "clone", "values");
    private static final Set<Class<?>> CONSTANTS = Set.of(int.class, long.class, boolean.class, char.class,
            String.class, int[].class, long[].class, char[].class, byte[].class);

    private final String text;
    /** The source with its comments taken out, and with nothing inside its texts and signs. */
    private final String code;
    private final List<Class<?>> classes = new ArrayList<>();
    /** Methods of one name are one here: what one calls counts for all, so depths are rather too great. */
    private final Map<String, Set<String>> calls = new TreeMap<>();

    private LanguageTest(String text) {
        this.text = text;
        code = NOT_CODE.matcher(text).replaceAll(found -> emptied(found.group()));
        classes.add(MasterPins.class);
        classes.addAll(List.of(MasterPins.class.getDeclaredClasses()));
    }

    public static void main(String[] args) throws IOException {
        LanguageTest test = new LanguageTest(Files.readString(SOURCE));
        test.classesInside();
        test.namesOfPrivateMethods();
        test.words();
        test.types();
        test.staticsOfTheLibrary();
        test.methodsOfTheLibrary();
        test.staticFields();
        test.throwsAreWritten();
        test.textsAreNotJoined();
        test.sizes();
        test.methods();
        test.depths();
        Check.finish("LanguageTest");
    }

    private static String emptied(String found) {
        return found.startsWith("\"") ? "\"\"" : found.startsWith("'") ? "' '" : found.replaceAll("[^\n]+", " ");
    }

    private Set<String> found(String pattern) {
        Set<String> found = new TreeSet<>();
        Matcher matcher = Pattern.compile(pattern).matcher(code);
        while (matcher.find()) {
            found.add(matcher.group(matcher.groupCount()));
        }
        return found;
    }

    private static void none(String rule, Set<String> found) {
        Check.isTrue(rule + ": " + found, found.isEmpty());
    }

    private void classesInside() {
        for (Class<?> type : classes) {
            boolean isOuter = type == MasterPins.class;
            int modifiers = type.getModifiers();
            boolean isHidden = !Modifier.isPublic(modifiers) && !Modifier.isProtected(modifiers);
            Check.isTrue("rule 1: " + type + " is hidden", isOuter || isHidden);
            Check.isTrue("rule 1: " + type + " is static", isOuter || Modifier.isStatic(modifiers));
        }
        none("rule 1: package line", found("(?m)^\\s*(package)\\b"));
    }

    private void namesOfPrivateMethods() {
        Set<String> face = new HashSet<>();
        for (Method method : MasterPins.class.getDeclaredMethods()) {
            if (Modifier.isPublic(method.getModifiers())) {
                face.add(method.getName());
            }
        }
        for (Class<?> type : classes) {
            for (Method method : type.getDeclaredMethods()) {
                boolean isOfFace = type == MasterPins.class && Modifier.isPublic(method.getModifiers());
                Check.isTrue("rule 1: " + type + " " + method.getName() + " has a name of its own",
                        isOfFace || !face.contains(method.getName()));
            }
        }
    }

    private void words() {
        none("rule 3: lambdas and method references", found("(->|::)"));
        none("rules 3, 6 and 13: words that do not stand in the language", found("\\b(finally|synchronized|assert"
                + "|volatile|transient|native|strictfp|var|record\\s+\\w+\\s*\\(|yield|sealed|permits)\\b"));
        // The rules let a written exception be caught; this class asks first and never has to.
        none("rule 6: try and catch", found("\\b(try|catch)\\b"));
        none("rule 6: methods of all objects", found("\\b(hashCode|getClass|getMessage)\\b"));
        none("rule 9: loops whose end cannot be seen", found("(while\\s*\\(true\\)|for\\s*\\(\\s*;[^;]*;)"));
        Set<String> imports = found("\\b(javax?\\.[\\w.*]+)");
        imports.removeIf(name -> name.matches("java\\.util\\.(ArrayList|List|Arrays|Iterator|NoSuchElementException)"));
        none("rule 4: imports", imports);
        Check.isTrue("rule 4: signs from 1 to 127", text.chars().allMatch(sign -> sign > 0 && sign < 128));
    }

    private void types() {
        Set<String> names = found("\\b([A-Z]\\w*[a-z]\\w*)\\b");
        names.removeAll(LIBRARY);
        names.removeAll(EXCEPTIONS);
        for (Class<?> type : classes) {
            names.remove(type.getSimpleName());
        }
        none("rules 3 and 4: types", names);
        none("rule 3: arrays of more dimensions", found("(\\[\\]\\s*\\[\\]\\s*\\[\\])"));
    }

    private void staticsOfTheLibrary() {
        Set<String> used = found("\\b((?:Integer|Long|Math|System|Arrays|List|String|StringBuilder)\\.\\w+\\(?)");
        used.removeAll(STATICS);
        used.removeIf(name -> name.matches("(?:Integer|Long|Math)\\.\\w+\\(")
                && NUMBER_FUNCTIONS.contains(name.substring(name.indexOf('.') + 1, name.length() - 1)));
        none("rule 4: library", used);
    }

    private void methodsOfTheLibrary() {
        Set<String> used = found("\\.(\\w+)\\(");
        used.removeAll(LIBRARY_METHODS);
        used.removeAll(NUMBER_FUNCTIONS);
        used.remove("arraycopy");
        for (Class<?> type : classes) {
            for (Method method : type.getDeclaredMethods()) {
                used.remove(method.getName());
            }
        }
        none("rule 4: methods of the library", used);
    }

    private void staticFields() {
        for (Class<?> type : classes) {
            for (Field field : type.getDeclaredFields()) {
                if (Modifier.isStatic(field.getModifiers()) && !field.isSynthetic()) {
                    Class<?> kind = field.getType();
                    boolean isOfEnum = kind.isEnum() || kind.isArray() && kind.getComponentType().isEnum();
                    Check.isTrue("rule 5: " + field + " is final", Modifier.isFinal(field.getModifiers()));
                    Check.isTrue("rule 5: " + field + " is a constant", isOfEnum || CONSTANTS.contains(kind));
                }
            }
        }
        none("rule 5: static blocks", found("\\b(static)\\s*\\{"));
    }

    private void throwsAreWritten() {
        Set<String> thrown = found("\\bthrow\\b\\s*([^;]*)");
        thrown.removeIf(written -> written.matches("new (" + String.join("|", EXCEPTIONS) + ")\\((\"\")?\\)"));
        none("rule 6: exceptions", thrown);
    }

    private void textsAreNotJoined() {
        none("rule 10: texts joined by +", found("(\"\"\\s*\\+|\\+=?\\s*\"\")"));
    }

    private void sizes() {
        Check.isTrue("rule 11: classes: " + classes.size(), classes.size() <= MOST_CLASSES);
        for (Class<?> type : classes) {
            int fields = 0;
            for (Field field : type.getDeclaredFields()) {
                fields += Modifier.isStatic(field.getModifiers()) ? 0 : 1;
            }
            Check.isTrue("rule 11: fields of " + type + ": " + fields, fields <= MOST_FIELDS);
            for (Method method : type.getDeclaredMethods()) {
                Check.isTrue("rule 11: parameters of " + method, method.getParameterCount() <= MOST_PARAMETERS);
            }
        }
    }

    private int closing(int open) {
        int depth = 0;
        for (int place = open; place < code.length(); place++) {
            char sign = code.charAt(place);
            depth += sign == '{' ? 1 : sign == '}' ? -1 : 0;
            if (depth == 0) {
                return place;
            }
        }
        return code.length();
    }

    /** Measures each method, and notes what it calls. */
    private void methods() {
        Matcher method = METHOD.matcher(code);
        while (method.find()) {
            String name = method.group(1);
            if (!NO_METHODS.contains(name)) {
                String body = code.substring(method.end(), closing(method.end() - 1));
                long lines = body.chars().filter(sign -> sign == '\n').count() + 1;
                Check.isTrue("rule 11: lines of " + name + ": " + lines, lines <= MOST_LINES);
                Set<String> called = calls.computeIfAbsent(name, key -> new TreeSet<>());
                Matcher call = CALL.matcher(body);
                while (call.find()) {
                    called.add(call.group(1));
                }
            }
        }
        none("methods that this test does not find in the source", declaredButNotFound());
    }

    private Set<String> declaredButNotFound() {
        Set<String> names = new TreeSet<>();
        for (Class<?> type : classes) {
            for (Method method : type.getDeclaredMethods()) {
                if (!method.isSynthetic() && !type.isEnum()) {
                    names.add(method.getName());
                }
            }
        }
        names.removeAll(calls.keySet());
        return names;
    }

    private void depths() {
        for (String name : calls.keySet()) {
            int depth = depth(name, new HashSet<>());
            Check.isTrue("rule 11: calls below " + name + " go " + depth + " deep", depth <= DEEPEST);
        }
    }

    /** How deep the calls go, this one counted; more than is allowed if it comes back to itself. */
    private int depth(String name, Set<String> open) {
        if (NO_METHODS.contains(name)) {
            return 0;
        }
        if (!open.add(name)) {
            return DEEPEST + 1;
        }
        int deepest = 0;
        for (String called : calls.getOrDefault(name, Set.of())) {
            deepest = Math.max(deepest, depth(called, open));
        }
        open.remove(name);
        return deepest + 1;
    }
}
