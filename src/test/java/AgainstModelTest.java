import java.util.ArrayDeque;
import java.util.Deque;
import java.util.Random;

/** Runs of calls by chance (always the same ones), each answer against that of the model. */
public final class AgainstModelTest {
    private static final int RUNS = 400;
    private static final int CALLS = 512;
    private static final String[] NAMES = {
        "clear", "monkey", "monkey", "like", "organ", "now", "now", "plays", "plays", "plays", "plays", "plays",
        "moves", "mends", "gives", "gives", "gives", "weather", "poll", "undo", "undo", "plan", "plan", "round",
        "round", "bribes", "bribes", "odds", "knows", "knows", "knows", "forget", "can", "can", "next", "rate",
        "keep", "back", "count", "trace"
    };

    private final Random random;
    private final MonkeyVotes votes = new MonkeyVotes();
    private final Model model = new Model();
    private final Deque<Integer> letters = new ArrayDeque<>();
    private final int run;
    /** How many numbers are drawn at the edge of what may be or beyond it. */
    private final int wild;

    private AgainstModelTest(int run) {
        this.run = run;
        random = new Random(run);
        wild = run % 3 == 0 ? 20 : 3;
    }

    public static void main(String[] args) {
        for (int run = 0; run < RUNS; run++) {
            new AgainstModelTest(run).runs();
        }
        Due.end();
    }

    private void runs() {
        for (int i = 0; i < CALLS; i++) {
            if (!letters.isEmpty()) {
                int letter = letters.remove();
                calls(letter < 0 ? "kingdom" : "type", letter, 0, 0);
            } else if (i == 0 || random.nextInt(120) == 0) {
                tells();
            } else {
                String name = NAMES[random.nextInt(NAMES.length)];
                calls(name, number(name, 0), number(name, 1), number(name, 2));
            }
        }
    }

    private int number(String name, int which) {
        if (random.nextInt(100) < wild) {
            int[] far = {-1, -2, 7, 10, 11, 100, Integer.MAX_VALUE, Integer.MIN_VALUE};
            return far[random.nextInt(far.length)];
        }
        boolean mayBeBelow = which == 2 || name.equals("plan") || name.equals("bribes");
        int below = mayBeBelow ? 1 : 0;
        int most = name.equals("odds") && which == 0 ? 11 : name.equals("weather") ? 6 : which == 2 ? 2 : 5;
        return random.nextInt(most + below) - below;
    }

    /** Lets a text come, letter by letter, of which one in three has a fault in it. */
    private void tells() {
        StringBuilder text = new StringBuilder();
        int streets = 3;
        int tunes = 3;
        if (random.nextInt(4) > 0) {
            streets = 1 + random.nextInt(5);
            text.append('s').append(streets).append(';');
        }
        if (random.nextInt(4) > 0) {
            tunes = 1 + random.nextInt(4);
            text.append(" t").append(tunes).append(" ;");
        }
        int monkeys = random.nextInt(7);
        for (int m = 0; m < monkeys; m++) {
            text.append('m').append(random.nextInt(streets)).append(' ').append(random.nextInt(10));
            for (int t = 0; t < tunes; t++) {
                text.append(' ').append(random.nextInt(7));
            }
            text.append(';');
        }
        int organs = random.nextInt(4);
        for (int o = 0; o < organs; o++) {
            text.append('o').append(random.nextInt(streets)).append(' ').append(random.nextInt(16)).append(';');
        }
        if (random.nextInt(3) == 0) {
            spoils(text);
        }
        for (int i = 0; i < text.length(); i++) {
            letters.add((int) text.charAt(i));
        }
        letters.add(-1);
    }

    private void spoils(StringBuilder text) {
        String signs = "stmo;; 0123456789 x" + (char) 200;
        for (int i = random.nextInt(3); i >= 0 && text.length() > 0; i--) {
            int at = random.nextInt(text.length());
            char sign = signs.charAt(random.nextInt(signs.length()));
            switch (random.nextInt(4)) {
                case 0: text.insert(at, sign); break;
                case 1: text.deleteCharAt(at); break;
                case 2: text.setLength(at); break;
                default: text.setCharAt(at, sign); break;
            }
        }
    }

    private void calls(String name, int a, int b, int c) {
        long got = Calls.answer(votes, name, a, b, c);
        Due.is("run " + run + ": " + name + "(" + a + ", " + b + ", " + c + ")", got, model.call(name, a, b, c));
    }
}
