import java.util.List;
import java.util.function.Supplier;

/** "Refused, and nothing changes, the first of these: BAD, STATE, FULL", call by call. */
public final class RefusedTest {
    private static final int BAD = MonkeyVotes.BAD;
    private static final int STATE = MonkeyVotes.STATE;
    private static final int FULL = MonkeyVotes.FULL;

    public static void main(String[] args) {
        type();
        kingdom();
        moves();
        mends();
        gives();
        weather();
        undo();
        knows();
        back();
        questionsChangeNothing();
        Due.end();
    }

    private static void type() {
        Due.by("type: BAD; FULL");
        Supplier<MonkeyVotes> full = () -> Scenes.scene(4);
        Due.is("count(5)", full.get().count(5), 150);
        Due.refused(full, FULL, "type", 0);
        Due.refused(full, FULL, "type", 59);
        Due.refused(full, FULL, "type", 255);
        Due.refused(full, BAD, "type", -1);
        Due.refused(full, BAD, "type", 256);
        MonkeyVotes cleared = full.get();
        cleared.clear();
        Due.is("type(59) of a full text that was cleared", cleared.type(59), 1);
        MonkeyVotes lastLetter = new MonkeyVotes();
        Due.types(lastLetter, " ".repeat(149));
        Due.is("type(59) of the last letter", lastLetter.type(59), 150);
    }

    private static void kingdom() {
        Due.by("kingdom: -10 less FAULT: nothing changes");
        String[] faults = {";", "x", "s0;", "s5;t4;m0 9 6 6 6 6;o4 16;", "s1;t1;m0 0 0;o0 0", "t4;o0 0;m0 1 2 3 4 5;s"};
        int[] places = {0, 0, 1, 22, 17, 21};
        for (int which = 0; which < 4; which++) {
            for (int i = 0; i < faults.length; i++) {
                int scene = which;
                String text = faults[i];
                Due.refused(() -> {
                    MonkeyVotes votes = Scenes.scene(scene);
                    votes.clear();
                    Due.types(votes, text);
                    return votes;
                }, -10 - places[i], "kingdom");
            }
        }
        Due.refused(() -> Scenes.scene(4), -10 - 150, "kingdom");
    }

    private static void moves() {
        Due.by("moves: BAD; STATE: there is one STREET");
        Supplier<MonkeyVotes> one = () -> Due.told("s1;m0 9 3 3 3;o0 1;o0 0;");
        Due.refused(one, STATE, "moves", 0, 0);
        Due.refused(one, STATE, "moves", 0, 1);
        Due.refused(one, STATE, "moves", 1, 1);
        Due.refused(one, BAD, "moves", 0, 2);
        Due.refused(one, BAD, "moves", 0, -1);
        Due.refused(one, BAD, "moves", 2, 1);
        Due.refused(one, BAD, "moves", -1, 1);
        Due.is("moves(0, 1) with two streets", Due.told("s2;o0 0;").moves(0, 1), 1);
    }

    private static void mends() {
        Due.by("mends: BAD; STATE: 0");
        Supplier<MonkeyVotes> whole = () -> Due.told("o0 0;o0 1;o2 15;");
        Due.refused(whole, STATE, "mends", 0);
        Due.refused(whole, BAD, "mends", 3);
        Due.refused(whole, BAD, "mends", -1);
        Due.is("mends(1) of wear 1", whole.get().mends(1), 1);
        Due.is("mends(2) of wear 15", whole.get().mends(2), 15);
        Due.refused(() -> {
            MonkeyVotes votes = whole.get();
            votes.mends(1);
            return votes;
        }, STATE, "mends", 1);
    }

    private static void gives() {
        Due.by("gives: BAD; STATE: it has 9");
        Supplier<MonkeyVotes> rich = () -> {
            MonkeyVotes votes = Due.told("m0 0 3 3 3;m0 0 3 3 3;");
            for (int nuts = 1; nuts <= 9; nuts++) {
                Due.is("gives(1)", votes.gives(1), nuts);
            }
            return votes;
        };
        Due.refused(rich, STATE, "gives", 1);
        Due.refused(rich, BAD, "gives", 2);
        Due.refused(rich, BAD, "gives", -1);
        Due.is("gives(0) to another", rich.get().gives(0), 1);
    }

    private static void weather() {
        Due.by("weather: BAD; STATE: it is so");
        for (int cold = 0; cold <= 9; cold++) {
            int now = cold;
            Supplier<MonkeyVotes> scene = () -> {
                MonkeyVotes votes = Scenes.scene(2);
                votes.weather(now);
                return votes;
            };
            List<Long> ahead = Sight.of(scene);
            Due.refused(scene, ahead, STATE, "weather", cold);
            Due.refused(scene, ahead, BAD, "weather", -1);
            Due.refused(scene, ahead, BAD, "weather", 10);
        }
    }

    private static void undo() {
        Due.by("undo: STATE: none");
        Due.refused(() -> Scenes.scene(0), STATE, "undo");
        Due.refused(() -> Scenes.scene(1), STATE, "undo");
        for (int which = 0; which < Scenes.MANY; which++) {
            int scene = which;
            Due.refused(() -> {
                MonkeyVotes votes = Scenes.scene(scene);
                for (int i = 0; i < 10; i++) {
                    votes.undo();
                }
                return votes;
            }, STATE, "undo");
        }
    }

    private static void knows() {
        Due.by("knows: BAD; FULL");
        Supplier<MonkeyVotes> full = () -> Scenes.scene(3);
        Due.is("count(4)", full.get().count(4), 6);
        Due.refused(full, FULL, "knows", 0, 0, 0);
        Due.refused(full, FULL, "knows", 3, 3, 1);
        Due.refused(full, FULL, "knows", 3, 0, -1);
        Due.refused(full, BAD, "knows", 4, 0, 0);
        Due.refused(full, BAD, "knows", 0, 4, 0);
        Due.refused(full, BAD, "knows", 0, 0, 2);
        Due.refused(full, BAD, "knows", 0, 0, -2);
        MonkeyVotes votes = full.get();
        votes.forget();
        Due.is("knows(0, 0, 0) behind forget()", votes.knows(0, 0, 0), 1);
    }

    private static void back() {
        Due.by("back: BAD; STATE: none was kept");
        for (int which = 0; which < 2; which++) {
            int scene = which;
            Due.refused(() -> Scenes.scene(scene), STATE, "back", 0);
            Due.refused(() -> Scenes.scene(scene), STATE, "back", 1);
            Due.refused(() -> Scenes.scene(scene), BAD, "back", 2);
            Due.refused(() -> Scenes.scene(scene), BAD, "back", -1);
        }
        Due.refused(() -> Scenes.scene(2), STATE, "back", 0);
        Due.is("back(1) of what was kept", Scenes.scene(2).back(1), 0);
    }

    private static void questionsChangeNothing() {
        Due.by("As things are NOW; nothing is changed");
        String[] questions = {
            "monkey", "like", "organ", "now", "plan", "round", "bribes", "odds", "can", "next", "count", "trace"
        };
        for (int which = 0; which < Scenes.MANY; which++) {
            int scene = which;
            List<Long> ahead = Sight.of(() -> Scenes.scene(scene));
            List<Long> behind = Sight.of(() -> {
                MonkeyVotes votes = Scenes.scene(scene);
                for (String question : questions) {
                    Calls.answer(votes, question, 0, 0, 0);
                    Calls.answer(votes, question, 1, 1, 1);
                    Calls.answer(votes, question, -1, -1, -1);
                }
                return votes;
            });
            Due.is("scene " + which + " behind questions is the same", behind.equals(ahead) ? 1 : 0, 1);
        }
    }
}
