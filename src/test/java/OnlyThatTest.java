import java.util.ArrayList;
import java.util.List;
import java.util.function.Consumer;
import java.util.function.Supplier;

/**
 * What a call does not change: questions, with every number that they take, change nothing; the calls
 * that change one thing leave all others; objects share nothing; the same calls have the same answers.
 *
 * An object is used for 512 calls at most, so that each look has an object of its own.
 */
public final class OnlyThatTest {
    private static final String[] QUESTIONS = {
        "monkey", "like", "organ", "now", "plan", "round", "bribes", "odds", "can", "next", "count", "trace"
    };
    private static final String[] OF_DAY = {
        "monkey", "like", "organ", "now", "plan", "round", "bribes", "odds"
    };

    public static void main(String[] args) {
        for (int which = 0; which < Scenes.MANY; which++) {
            questionsChangeNothing(which);
            answersStay(which);
            textAlone(which);
            knownAlone(which);
            traceAlone(which);
            imagesAlone(which);
            dayAlone(which);
            objectsShareNothing(which);
            sameCallsSameAnswers(which);
        }
        Due.end();
    }

    private static List<Long> asks(MonkeyVotes votes, String question, int a) {
        List<Long> answers = new ArrayList<>();
        for (int b = -1; b <= 5; b++) {
            answers.add(Calls.answer(votes, question, a, b, 0));
        }
        return answers;
    }

    private static List<Long> asks(MonkeyVotes votes, String question) {
        List<Long> answers = new ArrayList<>();
        for (int a = -1; a <= 11; a++) {
            answers.addAll(asks(votes, question, a));
        }
        return answers;
    }

    private static void same(String what, List<Long> got, List<Long> want) {
        Due.is(what + " is the same", got.equals(want) ? 1 : 0, 1);
    }

    private static void questionsChangeNothing(int which) {
        List<Long> ahead = Sight.of(() -> Scenes.scene(which));
        for (String question : QUESTIONS) {
            Due.by("As things are NOW; nothing is changed: " + question + " in scene " + which);
            for (int a = -1; a <= 11; a++) {
                int number = a;
                same("what can be seen", Sight.of(() -> {
                    MonkeyVotes votes = Scenes.scene(which);
                    asks(votes, question, number);
                    return votes;
                }), ahead);
            }
        }
    }

    private static void answersStay(int which) {
        for (String question : QUESTIONS) {
            Due.by("As things are NOW; nothing is changed: " + question + " once more in scene " + which);
            MonkeyVotes votes = Scenes.scene(which);
            List<Long> first = asks(votes, question);
            same("each answer", asks(votes, question), first);
        }
    }

    private static List<Long> day(Supplier<MonkeyVotes> scene) {
        List<Long> seen = new ArrayList<>();
        for (String question : OF_DAY) {
            seen.addAll(asks(scene.get(), question));
        }
        for (int what = 0; what < 4; what++) {
            seen.add((long) scene.get().count(what));
        }
        return seen;
    }

    private static List<Long> known(MonkeyVotes votes) {
        List<Long> seen = asks(votes, "can");
        seen.add((long) votes.next());
        seen.add((long) votes.count(4));
        return seen;
    }

    /** The letters, and what they tell. */
    private static List<Long> text(Supplier<MonkeyVotes> scene) {
        List<Long> seen = new ArrayList<>();
        seen.add((long) scene.get().count(5));
        seen.add((long) scene.get().kingdom());
        seen.addAll(day(() -> {
            MonkeyVotes votes = scene.get();
            // A text with a fault leaves the day, which is not what is looked at here.
            return votes.kingdom() < 0 ? new MonkeyVotes() : votes;
        }));
        return seen;
    }

    private static List<Long> undone(MonkeyVotes votes, Consumer<MonkeyVotes> ahead) {
        List<Long> seen = new ArrayList<>();
        for (int i = 0; i < 11; i++) {
            ahead.accept(votes);
            seen.add((long) votes.now(0));
            seen.add((long) votes.now(6));
            for (int o = 0; o < 3; o++) {
                seen.add((long) votes.organ(o, 0));
                seen.add((long) votes.organ(o, 1));
            }
            seen.add((long) votes.undo());
        }
        return seen;
    }

    private static List<Long> image(Supplier<MonkeyVotes> scene, int image) {
        if (scene.get().back(image) < 0) {
            return List.of((long) scene.get().back(image));
        }
        return day(() -> {
            MonkeyVotes votes = scene.get();
            votes.back(image);
            return votes;
        });
    }

    /** The parts that are named are the same behind the call. */
    private static void leaves(int which, String call, Consumer<MonkeyVotes> does, String... parts) {
        Due.by("a call changes what it tells, and nothing else: " + call + " in scene " + which);
        Supplier<MonkeyVotes> ahead = () -> Scenes.scene(which);
        Supplier<MonkeyVotes> behind = () -> {
            MonkeyVotes votes = Scenes.scene(which);
            does.accept(votes);
            return votes;
        };
        for (String part : parts) {
            switch (part) {
                case "day": same(part, day(behind), day(ahead)); break;
                case "known": same(part, known(behind.get()), known(ahead.get())); break;
                case "text": same(part, text(behind), text(ahead)); break;
                case "trace": Due.is("trace()", behind.get().trace(), ahead.get().trace()); break;
                case "undone": same(part, undone(ahead.get(), does), undone(ahead.get(), votes -> { })); break;
                case "image 0": same(part, image(behind, 0), image(ahead, 0)); break;
                case "image 1": same(part, image(behind, 1), image(ahead, 1)); break;
                default: throw new IllegalArgumentException(part);
            }
        }
    }

    private static void textAlone(int which) {
        leaves(which, "type", v -> v.type('m'), "day", "known", "trace", "undone", "image 0", "image 1");
        leaves(which, "clear", v -> v.clear(), "day", "known", "trace", "undone", "image 0", "image 1");
    }

    private static void knownAlone(int which) {
        leaves(which, "knows", v -> v.knows(0, 0, 1), "day", "text", "trace", "undone", "image 0", "image 1");
        leaves(which, "forget", v -> v.forget(), "day", "text", "trace", "undone", "image 0", "image 1");
    }

    private static void traceAlone(int which) {
        for (int kind = 0; kind < 6; kind++) {
            int as = kind;
            leaves(which, "rate", v -> v.rate(as, 0), "day", "known", "text", "undone", "image 0", "image 1");
        }
    }

    private static void imagesAlone(int which) {
        leaves(which, "keep(0)", v -> v.keep(0), "day", "known", "text", "trace", "undone", "image 1");
        leaves(which, "keep(1)", v -> v.keep(1), "day", "known", "text", "trace", "undone", "image 0");
    }

    private static void dayAlone(int which) {
        dayAlone(which, "back(0)", v -> v.back(0));
        dayAlone(which, "back(1)", v -> v.back(1));
        dayAlone(which, "undo", v -> v.undo());
        dayAlone(which, "poll", v -> v.poll());
        dayAlone(which, "plays", v -> v.plays(0, 0));
        dayAlone(which, "moves", v -> v.moves(0, 1));
        dayAlone(which, "mends", v -> v.mends(0));
        dayAlone(which, "gives", v -> v.gives(0));
        dayAlone(which, "weather", v -> v.weather(5));
    }

    private static void dayAlone(int which, String call, Consumer<MonkeyVotes> does) {
        leaves(which, call, does, "known", "text", "trace", "image 0", "image 1");
    }

    private static void objectsShareNothing(int which) {
        Due.by("A new object: as told, whatever others are told");
        List<Long> ahead = Sight.of(() -> Scenes.scene(which));
        same("scene " + which + " beside others", Sight.of(() -> {
            MonkeyVotes votes = Scenes.scene(which);
            for (int other = 0; other < Scenes.MANY; other++) {
                usesUp(Scenes.scene(other));
            }
            return votes;
        }), ahead);
    }

    private static void usesUp(MonkeyVotes votes) {
        votes.plays(0, 0);
        votes.gives(0);
        votes.weather(3);
        votes.knows(0, 0, -1);
        votes.keep(0);
        votes.plan(-1);
        votes.bribes(0);
        votes.rate(5, 0);
        votes.poll();
        votes.clear();
        votes.kingdom();
    }

    private static void sameCallsSameAnswers(int which) {
        Due.by("the same calls always give the same answers");
        List<Long> first = Sight.of(() -> Scenes.scene(which));
        same("scene " + which + " once more", Sight.of(() -> Scenes.scene(which)), first);
    }
}
