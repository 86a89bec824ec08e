import java.io.IOException;
import java.lang.reflect.Constructor;
import java.lang.reflect.Field;
import java.lang.reflect.Method;
import java.lang.reflect.Modifier;
import java.nio.file.Files;
import java.nio.file.Path;
import java.util.Set;
import java.util.TreeSet;
import java.util.regex.Pattern;

/** The public face and what LANGUAGE.md forbids, as far as it can be seen from outside. */
public final class FaceTest {
    private static final Set<String> METHODS = Set.of(
        "int type(int)", "int clear()", "int kingdom()", "int monkey(int,int)", "int like(int,int)",
        "int organ(int,int)", "int now(int)", "int plays(int,int)", "int moves(int,int)",
        "int mends(int)", "int gives(int)", "int weather(int)", "int poll()", "int undo()",
        "int plan(int)", "int round(int,int)", "int bribes(int)", "int odds(int,int)",
        "int knows(int,int,int)", "int forget()", "int can(int,int)", "int next()",
        "int rate(int,int)", "int keep(int)", "int back(int)", "int count(int)", "long trace()");
    private static final String[] FORBIDDEN = {
        "throw", "throws", "try", "catch", "synchronized", "assert", "->", "::", "Exact", "@Override"
    };

    public static void main(String[] args) throws IOException {
        methods();
        constants();
        namesOfPrivateMethods();
        words();
        Due.end();
    }

    private static void methods() {
        Set<String> found = new TreeSet<>();
        for (Method method : MonkeyVotes.class.getDeclaredMethods()) {
            if (!Modifier.isPrivate(method.getModifiers()) && !method.isSynthetic()) {
                found.add(signature(method));
            }
        }
        Due.is("the face " + found, found.equals(METHODS) ? 1 : 0, 1);
        Constructor<?>[] constructors = MonkeyVotes.class.getConstructors();
        Due.is("public constructors", constructors.length, 1);
        Due.is("parameters of the constructor", constructors[0].getParameterCount(), 0);
        int kind = MonkeyVotes.class.getModifiers();
        Due.is("public and final", Modifier.isPublic(kind) && Modifier.isFinal(kind) ? 1 : 0, 1);
    }

    private static String signature(Method method) {
        StringBuilder text = new StringBuilder();
        text.append(method.getReturnType().getName()).append(' ').append(method.getName()).append('(');
        for (int i = 0; i < method.getParameterCount(); i++) {
            text.append(i > 0 ? "," : "").append(method.getParameterTypes()[i].getName());
        }
        return text.append(')').toString();
    }

    private static void constants() {
        Due.is("BAD", MonkeyVotes.BAD, -1);
        Due.is("STATE", MonkeyVotes.STATE, -2);
        Due.is("FULL", MonkeyVotes.FULL, -3);
        Due.is("NONE", MonkeyVotes.NONE, -9);
        Due.is("NO", MonkeyVotes.NO, -1000000);
        for (Field field : MonkeyVotes.class.getDeclaredFields()) {
            boolean isOurs = Set.of("BAD", "STATE", "FULL", "NONE", "NO").contains(field.getName());
            Due.is(field + " is private or of the face", Modifier.isPrivate(field.getModifiers()) != isOurs ? 1 : 0, 1);
        }
    }

    private static void namesOfPrivateMethods() {
        Set<String> names = new TreeSet<>();
        for (String method : METHODS) {
            names.add(method.substring(method.indexOf(' ') + 1, method.indexOf('(')));
        }
        for (Class<?> inside : MonkeyVotes.class.getDeclaredClasses()) {
            Due.is(inside + " is static", Modifier.isStatic(inside.getModifiers()) ? 1 : 0, 1);
            for (Method method : inside.getDeclaredMethods()) {
                Due.is(method + " bears a name of the face", names.contains(method.getName()) ? 1 : 0, 0);
            }
        }
    }

    private static void words() throws IOException {
        String source = Files.readString(Path.of("src/main/java/MonkeyVotes.java"));
        String code = source.replaceAll("(?s)/\\*.*?\\*/", "").replaceAll("//[^\n]*", "");
        for (String word : FORBIDDEN) {
            String edge = Character.isLetter(word.charAt(0)) ? "\\b" : "";
            boolean found = Pattern.compile(edge + Pattern.quote(word) + edge).matcher(code).find();
            Due.is("the source has " + word, found ? 1 : 0, 0);
        }
        for (int i = 0; i < source.length(); i++) {
            if (source.charAt(i) > 127) {
                Due.is("a sign of the source at " + i, source.charAt(i), 127);
            }
        }
    }
}
