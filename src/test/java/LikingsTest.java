/** Promises 20 to 23: how one likes tunes. */
public final class LikingsTest {
    private static final int BAD = MonkeyVotes.BAD;
    private static final int NO = MonkeyVotes.NO;
    private static final int NONE = MonkeyVotes.NONE;

    public static void main(String[] args) {
        knowsAndForget();
        canByNothing();
        canByVotes();
        next();
        Due.end();
    }

    private static void knowsAndForget() {
        MonkeyVotes votes = Due.told("t2;");
        Due.is("forget() of nothing", votes.forget(), 0);
        int[][] wrong = {{-1, 0, 0}, {2, 0, 0}, {0, -1, 0}, {0, 2, 0}, {0, 0, -2}, {0, 0, 2}};
        for (int times = 0; times < 6; times++) {
            Due.is("knows(0, 1, 0)", votes.knows(0, 1, 0), times + 1);
        }
        Due.is("knows(0, 1, 0) of a seventh", votes.knows(0, 1, 0), MonkeyVotes.FULL);
        for (int[] w : wrong) {
            Due.is("knows(" + w[0] + ", " + w[1] + ", " + w[2] + ")", votes.knows(w[0], w[1], w[2]), BAD);
        }
        Due.is("count(4)", votes.count(4), 6);
        Due.is("forget()", votes.forget(), 6);
        Due.is("count(4) behind forget()", votes.count(4), 0);
        Due.is("can(0, 0) behind forget()", votes.can(0, 0), 49);
        Due.is("now(6)", votes.now(6), 0);
    }

    private static void canByNothing() {
        int rows = 1;
        for (int tunes = 1; tunes <= 4; tunes++) {
            rows *= 7;
            MonkeyVotes votes = Due.told("t" + tunes + ";");
            Due.is("can(0, 0)", votes.can(0, 0), rows);
            Due.is("can(last, 0)", votes.can(tunes - 1, 0), rows);
            Due.is("can(last, 1)", votes.can(tunes - 1, 1), -3);
            Due.is("can(last, 2)", votes.can(tunes - 1, 2), 3);
            int[][] wrong = {{-1, 0}, {tunes, 0}, {tunes, 1}, {0, -1}, {0, 3}};
            for (int[] w : wrong) {
                Due.is("can(" + w[0] + ", " + w[1] + ")", votes.can(w[0], w[1]), NO);
            }
        }
    }

    private static void canIs(MonkeyVotes votes, int tune, int rows, int least, int greatest) {
        Due.is("can(" + tune + ", 0)", votes.can(tune, 0), rows);
        Due.is("can(" + tune + ", 1)", votes.can(tune, 1), least);
        Due.is("can(" + tune + ", 2)", votes.can(tune, 2), greatest);
    }

    private static void canByVotes() {
        MonkeyVotes votes = Due.told("t2;");
        votes.knows(0, 0, -1);
        canIs(votes, 0, 21, -3, -1);
        canIs(votes, 1, 21, -3, 3);
        votes.knows(0, 1, 1);
        // -1 with 2, 3, and -2 with 3
        canIs(votes, 0, 3, -2, -1);
        canIs(votes, 1, 3, 2, 3);
        votes.knows(1, 1, 0);
        canIs(votes, 0, 0, NONE, NONE);
        votes.forget();
        votes.knows(1, 0, 0);
        canIs(votes, 0, 7, -3, 3);
        votes.knows(1, 1, 0);
        canIs(votes, 1, 1, 0, 0);
    }

    private static void next() {
        MonkeyVotes votes = Due.told("t3;");
        Due.is("next() of all", votes.next(), 0);
        votes.knows(0, 0, 0);
        Due.is("next() by tune 0", votes.next(), 1);
        votes.knows(1, 1, 1);
        Due.is("next() by tunes 0, 1", votes.next(), 2);
        votes.knows(2, 2, 1);
        Due.is("next() that tells nothing", votes.next(), 0);
        votes.knows(0, 2, -1);
        Due.is("next() of none", votes.next(), NONE);
        votes.forget();
        for (int tune = 0; tune < 3; tune++) {
            votes.knows(tune, tune, 0);
        }
        Due.is("can(0, 0) of one", votes.can(0, 0), 1);
        Due.is("next() of one", votes.next(), NONE);
        votes.forget();
        votes.knows(0, 0, 1);
        votes.knows(0, 1, 1);
        votes.knows(2, 2, -1);
        // Tune 0: 3 parts of one kind; tune 1: 1 + 2 + 3 below, at and above 0.
        Due.is("next() of the smallest greatest part", votes.next(), 1);
    }
}
