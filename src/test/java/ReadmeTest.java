import java.io.IOException;
import java.lang.reflect.Method;
import java.lang.reflect.Modifier;
import java.nio.file.Files;
import java.nio.file.Path;
import java.util.List;
import java.util.regex.Matcher;
import java.util.regex.Pattern;
import java.util.stream.Collectors;

/** README.md: its example answers as it says; every call, every constant, every test stands in it. */
public final class ReadmeTest {
    private static final Pattern CALL = Pattern.compile("votes\\.(\\w+)\\(([-0-9, ]*)\\);\\s*// (-?\\d+): ");

    public static void main(String[] args) throws IOException {
        String readme = Files.readString(Path.of("README.md"));
        example(readme);
        calls(readme);
        tests(readme);
        Due.end();
    }

    private static void example(String readme) {
        Due.by("the example of README.md");
        Matcher text = Pattern.compile("\"([^\"]+)\"\\.toCharArray").matcher(readme);
        MonkeyVotes votes = new MonkeyVotes();
        Due.is("a text is told", text.find() ? 1 : 0, 1);
        Due.types(votes, text.group(1));
        Matcher calls = CALL.matcher(readme);
        int called = 0;
        while (calls.find()) {
            String[] numbers = calls.group(2).isBlank() ? new String[0] : calls.group(2).split(", *");
            int[] n = new int[3];
            for (int i = 0; i < numbers.length; i++) {
                n[i] = Integer.parseInt(numbers[i]);
            }
            long got = Calls.answer(votes, calls.group(1), n[0], n[1], n[2]);
            Due.is(calls.group(1) + "(" + calls.group(2) + ")", got, Long.parseLong(calls.group(3)));
            called++;
        }
        long lines = readme.lines().filter(line -> line.startsWith("votes.")).count();
        Due.is("calls of the example that are tried", called, lines);
    }

    private static void calls(String readme) {
        Due.by("README.md says how to use the class");
        for (Method method : MonkeyVotes.class.getDeclaredMethods()) {
            if (Modifier.isPublic(method.getModifiers())) {
                int row = readme.indexOf("| `" + method.getName() + "(");
                Due.is(method.getName() + " has a row", row >= 0 ? 1 : 0, 1);
            }
        }
        for (String constant : List.of("`BAD` (-1:", "`STATE` (-2)", "`FULL` (-3)", "`NO` (-1000000:", "`NONE` (-9)")) {
            Due.is(constant + " is told", readme.contains(constant) ? 1 : 0, 1);
        }
    }

    private static void tests(String readme) throws IOException {
        Due.by("README.md says how to run its tests");
        Due.is(".ci/run is told", readme.contains("\n.ci/run\n") ? 1 : 0, 1);
        try (var files = Files.list(Path.of("src/test/java"))) {
            List<String> names = files.map(file -> file.getFileName().toString().replace(".java", ""))
                .collect(Collectors.toList());
            for (String name : names) {
                boolean isTold = readme.contains(name.endsWith("Test") ? "| " + name + " |" : "`" + name + "`");
                Due.is(name + " is told", isTold ? 1 : 0, 1);
            }
        }
    }
}
