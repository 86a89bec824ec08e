import java.io.IOException;
import java.lang.reflect.Constructor;
import java.lang.reflect.Field;
import java.lang.reflect.Method;
import java.lang.reflect.Modifier;
import java.nio.file.Files;
import java.nio.file.Path;
import java.util.ArrayList;
import java.util.List;
import java.util.Set;
import java.util.regex.Matcher;
import java.util.regex.Pattern;

/**
 * LANGUAGE.md rule by rule, as far as it can be seen from the compiled classes and from the source
 * without its comments. FaceTest has rule 1 and the words that rule 6 forbids.
 */
public final class LanguageTest {
    private static final int MOST_CLASSES = 12;
    private static final int MOST_FIELDS = 20;
    private static final int MOST_PARAMETERS = 7;
    private static final int MOST_LINES = 60;
    private static final Set<String> CONSTANTS = Set.of("int", "long", "boolean", "char", "java.lang.String");
    private static final Set<String> CONSTANT_ROWS = Set.of("int", "long", "char", "byte");
    private static final Set<String> IMPORTS = Set.of("java.util.ArrayList", "java.util.Arrays", "java.util.List", "java.util.Iterator");
    private static final Set<String> OF_LIBRARY = Set.of(
        "System.arraycopy", "Arrays.copyOf", "Arrays.copyOfRange", "Arrays.fill", "Math.max", "Math.min", "Math.abs",
        "Math.floorDiv", "Math.floorMod", "Integer.compare", "Integer.max", "Integer.min", "Integer.signum",
        "Integer.bitCount", "Long.compare", "Long.max", "Long.min");

    private static final List<Class<?>> CLASSES = new ArrayList<>();
    private static String code;

    public static void main(String[] args) throws IOException {
        String source = Files.readString(Path.of("src/main/java/MonkeyVotes.java"));
        code = source.replaceAll("(?s)/\\*.*?\\*/", "").replaceAll("//[^\n]*", "");
        CLASSES.add(MonkeyVotes.class);
        CLASSES.addAll(List.of(MonkeyVotes.class.getDeclaredClasses()));
        oneFile();
        classesInside();
        typesOfFields();
        library();
        staticFields();
        wordsThatAreOut();
        textsAreNotJoined();
        sizes();
        linesOfMethods();
        Due.end();
    }

    private static boolean finds(String pattern) {
        return Pattern.compile(pattern).matcher(code).find();
    }

    private static void not(String what, String pattern) {
        Due.is("the source has " + what, finds(pattern) ? 1 : 0, 0);
    }

    private static void oneFile() throws IOException {
        Due.by("one file, without a package line");
        not("a package line", "(?m)^\\s*package\\b");
        try (var files = Files.walk(Path.of("src/main"))) {
            Due.is("files under src/main", files.filter(Files::isRegularFile).count(), 1);
        }
        Due.is("classes beside it in the file", Pattern.compile("(?m)^(public |final |abstract )*(class|record|enum|interface)\\b")
            .matcher(code).results().count(), 1);
    }

    private static void classesInside() {
        Due.by("2: static nested classes; no local or anonymous class, no lambda, no method reference");
        for (Class<?> inside : CLASSES.subList(1, CLASSES.size())) {
            Due.is(inside + " is static", Modifier.isStatic(inside.getModifiers()) ? 1 : 0, 1);
            Due.is("classes inside " + inside, inside.getDeclaredClasses().length, 0);
            boolean isSeen = Modifier.isPublic(inside.getModifiers()) || Modifier.isProtected(inside.getModifiers());
            Due.is(inside + " is public or protected", isSeen ? 1 : 0, 0);
        }
        Due.is("the words class in the source are as many", Pattern.compile("\\b(class|record|enum|interface) [A-Z]")
            .matcher(code).results().count(), CLASSES.size());
        not("an anonymous class", "new \\w+(<[^>]*>)?\\([^()]*\\)\\s*\\{");
        not("a lambda", "->");
        not("a method reference", "::");
    }

    private static void typesOfFields() {
        Due.by("3: numbers, rows of one dimension, of two dimensions of numbers, own classes");
        for (Class<?> each : CLASSES) {
            for (Field field : each.getDeclaredFields()) {
                Due.is("the type of " + field, isOfRule3(field.getType()) ? 1 : 0, 1);
            }
            for (Method method : each.getDeclaredMethods()) {
                for (Class<?> type : method.getParameterTypes()) {
                    Due.is("a parameter of " + method, isOfRule3(type) ? 1 : 0, 1);
                }
            }
        }
        not("a double or a float", "\\b(double|float|Double|Float)\\b");
        not("var", "\\bvar\\b");
    }

    private static boolean isOfRule3(Class<?> type) {
        Class<?> core = type;
        int dimensions = 0;
        for (; core.isArray() && dimensions < 9; dimensions++) {
            core = core.getComponentType();
        }
        boolean isOwn = CLASSES.contains(core);
        boolean isText = core == String.class || core == StringBuilder.class;
        return dimensions == 0 && isText || dimensions <= 1 && isOwn || dimensions <= 2 && core.isPrimitive();
    }

    private static void library() {
        Due.by("4: the library: only what stands there");
        Matcher imports = Pattern.compile("(?m)^import ([^;]+);").matcher(code);
        while (imports.find()) {
            Due.is("import " + imports.group(1) + " is listed", IMPORTS.contains(imports.group(1)) ? 1 : 0, 1);
        }
        Matcher calls = Pattern.compile("\\b([A-Z][a-z]\\w*)\\.(\\w+)\\(").matcher(code);
        while (calls.find()) {
            String call = calls.group(1) + "." + calls.group(2);
            Due.is(call + " is listed", OF_LIBRARY.contains(call) ? 1 : 0, 1);
        }
        not("a full name of the library", "\\bjava\\.(?!util\\.\\w+;)");
        not("a name of the library that is not listed", "\\b(Map|Set|HashMap|Optional|Stream|Random|Thread|Object|Long\\.valueOf)\\b");
    }

    private static void staticFields() {
        Due.by("5: static fields are final constants; no static initialiser block");
        for (Class<?> each : CLASSES) {
            for (Field field : each.getDeclaredFields()) {
                if (!Modifier.isStatic(field.getModifiers())) {
                    continue;
                }
                Due.is(field + " is final", Modifier.isFinal(field.getModifiers()) ? 1 : 0, 1);
                Class<?> type = field.getType();
                boolean isConstant = type.isArray() ? CONSTANT_ROWS.contains(type.getComponentType().getName())
                    : CONSTANTS.contains(type.getName());
                Due.is(field + " is a constant", isConstant ? 1 : 0, 1);
            }
        }
        not("a static block", "\\bstatic\\s*\\{");
    }

    private static void wordsThatAreOut() {
        Due.by("6, 12, 13: no throw, try, catch ..; no clock, randomness, thread");
        String[] words = {
            "throw", "throws", "try", "catch", "finally", "synchronized", "assert", "volatile", "native", "hashCode",
            "toString", "getClass", "identityHashCode", "nanoTime", "currentTimeMillis", "random", "yield", "goto"
        };
        for (String word : words) {
            not(word, "\\b" + word + "\\b");
        }
        not("a name that ends in Exact", "Exact\\b");
        not("a cast to a class", "\\([A-Z]\\w*\\) *\\w");
    }

    private static void textsAreNotJoined() {
        Due.by("10: joining texts by StringBuilder (not by +)");
        not("a text joined by +", "\"\\s*\\+|\\+\\s*\"");
    }

    private static void sizes() {
        Due.by("11: at most seven parameters, some twelve classes, some twenty fields beside the constants");
        Due.is(CLASSES.size() + " classes are few enough", CLASSES.size() <= MOST_CLASSES ? 1 : 0, 1);
        for (Class<?> each : CLASSES) {
            int fields = 0;
            for (Field field : each.getDeclaredFields()) {
                fields += Modifier.isStatic(field.getModifiers()) ? 0 : 1;
            }
            Due.is(fields + " fields of " + each + " are few enough", fields <= MOST_FIELDS ? 1 : 0, 1);
            for (Method method : each.getDeclaredMethods()) {
                Due.is(method + " takes few enough", method.getParameterCount() <= MOST_PARAMETERS ? 1 : 0, 1);
            }
            for (Constructor<?> made : each.getDeclaredConstructors()) {
                Due.is(made + " takes few enough", made.getParameterCount() <= MOST_PARAMETERS ? 1 : 0, 1);
            }
        }
    }

    /** A method begins at a line that ends in ") {" and is no statement; it ends where its depth does. */
    private static void linesOfMethods() {
        Due.by("11: methods stay short (some sixty lines)");
        String[] lines = code.split("\n");
        Pattern head = Pattern.compile("^( {4}| {8})(?!if|for|while|switch|\\})\\w[\\w\\[\\], <>]*\\(.*\\) \\{$");
        int methods = 0;
        for (int i = 0; i < lines.length; i++) {
            Matcher matcher = head.matcher(lines[i]);
            if (matcher.find()) {
                methods++;
                int last = i;
                while (last < lines.length && !lines[last].equals(matcher.group(1) + "}")) {
                    last++;
                }
                Due.is(lines[i].trim() + " is short", last - i < MOST_LINES ? 1 : 0, 1);
            }
        }
        int all = 0;
        for (Class<?> each : CLASSES) {
            for (Method method : each.getDeclaredMethods()) {
                all += method.isSynthetic() ? 0 : 1;
            }
        }
        Due.is("all methods are looked at, and constructors", methods >= all ? 1 : 0, 1);
    }
}
