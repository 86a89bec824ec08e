import java.util.ArrayList;
import java.util.List;
import java.util.function.Supplier;

/**
 * All that can be seen of an object: what it answers, and what it would become by being undone, by
 * going back to its images, by reading its text. Two objects of the same sight are alike.
 */
final class Sight {
    private final List<Long> answers = new ArrayList<>();

    private Sight() {
    }

    /** Some looks change what they look at, so that each has an object of its own. */
    static List<Long> of(Supplier<MonkeyVotes> scene) {
        Sight sight = new Sight();
        sight.asksAll(scene.get());
        sight.undoesAll(scene.get());
        sight.goesBack(scene.get(), 0);
        sight.goesBack(scene.get(), 1);
        sight.readsText(scene.get());
        sight.adds(scene.get().clear());
        sight.adds(scene.get().forget());
        return sight.answers;
    }

    private void adds(long answer) {
        answers.add(answer);
    }

    private void asksAll(MonkeyVotes votes) {
        asksOfKingdom(votes);
        asksOfDay(votes);
        for (int k = -1; k < 3; k++) {
            adds(votes.plan(k));
        }
        for (int o = 0; o < votes.count(3); o++) {
            for (int tune = 0; tune < votes.count(1); tune++) {
                adds(votes.round(o, tune));
            }
        }
        for (int m = -1; m < votes.count(2); m++) {
            adds(votes.bribes(m));
        }
        for (int x = 0; x <= 10; x++) {
            adds(votes.odds(x, 0));
            adds(votes.odds(x, 1));
        }
        for (int tune = 0; tune < votes.count(1); tune++) {
            for (int what = 0; what < 3; what++) {
                adds(votes.can(tune, what));
            }
        }
        adds(votes.next());
        adds(votes.trace());
    }

    private void asksOfKingdom(MonkeyVotes votes) {
        for (int what = 0; what < 6; what++) {
            adds(votes.count(what));
        }
        for (int m = 0; m < votes.count(2); m++) {
            adds(votes.monkey(m, 0));
            adds(votes.monkey(m, 1));
            for (int tune = 0; tune < votes.count(1); tune++) {
                adds(votes.like(m, tune));
            }
        }
    }

    private void asksOfDay(MonkeyVotes votes) {
        for (int what = 0; what < 7; what++) {
            adds(votes.now(what));
        }
        int monkeys = votes.count(2);
        for (int m = 0; m < monkeys; m++) {
            adds(votes.monkey(m, 2));
            adds(votes.monkey(m, 3));
            adds(votes.monkey(m, 4));
        }
        int organs = votes.count(3);
        for (int o = 0; o < organs; o++) {
            adds(votes.organ(o, 0));
            adds(votes.organ(o, 1));
        }
    }

    private void undoesAll(MonkeyVotes votes) {
        // One time more than can be undone, so that its end is seen, too.
        for (int i = 0; i < 11; i++) {
            adds(votes.undo());
            asksOfDay(votes);
        }
    }

    private void goesBack(MonkeyVotes votes, int image) {
        adds(votes.back(image));
        asksOfDay(votes);
    }

    private void readsText(MonkeyVotes votes) {
        adds(votes.kingdom());
        asksOfKingdom(votes);
        asksOfDay(votes);
    }
}
