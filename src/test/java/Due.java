import java.util.Arrays;
import java.util.List;
import java.util.function.Supplier;

/** Counts and prints the answers that are not the ones that are due. */
final class Due {
    private static int wrong = 0;
    private static String words = "";

    private Due() {
    }

    /** The words of the document by which the answers from here on are due. */
    static void by(String sentence) {
        words = "(" + sentence + ") ";
    }

    static void is(String call, long got, long want) {
        if (got != want) {
            wrong++;
            System.out.println(words + call + " answered " + got + ", due is " + want);
        }
    }

    /** Ends the program with exit code 1 if an answer was wrong. */
    static void end() {
        System.out.println(wrong == 0 ? "all answers are as due" : wrong + " answers are not as due");
        if (wrong != 0) {
            System.exit(1);
        }
    }

    static void types(MonkeyVotes votes, String text) {
        for (int i = 0; i < text.length(); i++) {
            votes.type(text.charAt(i));
        }
    }

    /** A new object that has read the text. */
    static MonkeyVotes told(String text) {
        MonkeyVotes votes = new MonkeyVotes();
        types(votes, text);
        int answer = votes.kingdom();
        if (answer < 0) {
            is("kingdom() of \"" + text + "\" for a test", answer, 0);
        }
        return votes;
    }

    /** A new object finds the fault of the text at the place, and the text stays. */
    static void fault(String text, int place) {
        MonkeyVotes votes = new MonkeyVotes();
        types(votes, text);
        is("kingdom() of \"" + text + "\"", votes.kingdom(), -10 - place);
        is("letters behind the fault of \"" + text + "\"", votes.count(5), text.length());
    }

    /** A new object reads the text as so many items, and the text is empty then. */
    static void items(String text, int many) {
        MonkeyVotes votes = new MonkeyVotes();
        types(votes, text);
        is("kingdom() of \"" + text + "\"", votes.kingdom(), many);
        is("letters behind kingdom() of \"" + text + "\"", votes.count(5), 0);
    }

    /**
     * The call is refused by the answer, and what can be seen of the object is the same behind it.
     * What is seen ahead of it is given along, for many calls may be refused by one scene.
     */
    static void refused(Supplier<MonkeyVotes> scene, List<Long> ahead, long want, String name, int... numbers) {
        int[] n = Arrays.copyOf(numbers, 3);
        String call = name + Arrays.toString(numbers);
        is(call, Calls.answer(scene.get(), name, n[0], n[1], n[2]), want);
        List<Long> behind = Sight.of(() -> {
            MonkeyVotes votes = scene.get();
            Calls.answer(votes, name, n[0], n[1], n[2]);
            return votes;
        });
        is("what can be seen is the same behind " + call, behind.equals(ahead) ? 1 : 0, 1);
    }

    static void refused(Supplier<MonkeyVotes> scene, long want, String name, int... numbers) {
        refused(scene, Sight.of(scene), want, name, numbers);
    }
}
