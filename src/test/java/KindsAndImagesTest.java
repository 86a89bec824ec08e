/** Promises 24 to 28: kinds, images. */
public final class KindsAndImagesTest {
    private static final int BAD = MonkeyVotes.BAD;
    private static final int NO = MonkeyVotes.NO;
    private static final int STATE = MonkeyVotes.STATE;

    public static void main(String[] args) {
        rate();
        images();
        imagesKeepNothingElse();
        count();
        Due.end();
    }

    private static void rate() {
        MonkeyVotes votes = Due.told("s1;t1;m0 7 6;m0 4 0;m0 9 1;o0 0;");
        votes.plays(0, 0);
        votes.plays(0, 0);
        votes.gives(2);
        votes.gives(2);
        votes.gives(2);
        votes.weather(8);
        // Coat 9, mood -4, nuts 3, number 2, cold 8.
        int[] rates = {9, 5, 6, 10, 8, 17};
        int[] traces = {1, 11, 101, 1011, 10101, 100001};
        long trace = 0;
        for (int kind = 0; kind < rates.length; kind++) {
            Due.is("rate(" + kind + ", 2)", votes.rate(kind, 2), rates[kind]);
            trace += traces[kind];
            Due.is("trace()", votes.trace(), trace);
        }
        Due.is("rate(3, 1)", votes.rate(3, 1), -4);
        trace += 1011;
        int[][] wrong = {{-1, 0}, {6, 0}, {0, -1}, {0, 3}, {6, 6}};
        for (int[] w : wrong) {
            Due.is("rate(" + w[0] + ", " + w[1] + ")", votes.rate(w[0], w[1]), NO);
        }
        Due.is("trace() behind what is refused", votes.trace(), trace);
        votes.undo();
        Due.is("trace() behind undo()", votes.trace(), trace);
        for (int i = 0; i < 400; i++) {
            votes.rate(5, 0);
        }
        Due.is("trace() behind many", votes.trace(), trace + 400L * 100001);
    }

    private static void images() {
        MonkeyVotes votes = Due.told("s3;t1;m0 7 6;o0 0;o2 6;");
        Due.is("keep(-1)", votes.keep(-1), BAD);
        Due.is("keep(2)", votes.keep(2), BAD);
        Due.is("back(-1)", votes.back(-1), BAD);
        Due.is("back(2)", votes.back(2), BAD);
        Due.is("back(0) of none", votes.back(0), STATE);
        Due.is("keep(0)", votes.keep(0), 0);
        Due.is("back(1) of none", votes.back(1), STATE);
        votes.gives(0);
        votes.poll();
        votes.poll();
        votes.plays(0, 0);
        votes.gives(0);
        votes.moves(1, 1);
        votes.mends(1);
        votes.weather(4);
        Due.is("keep(1)", votes.keep(1), 4);
        Due.is("now(6) behind keep()", votes.now(6), 8);
        Due.is("back(0)", votes.back(0), 0);
        stateIs(votes, 0, 0, 0, 2, 6, 0, 0, 0);
        Due.is("now(6) behind back()", votes.now(6), 0);
        Due.is("undo() behind back()", votes.undo(), STATE);
        Due.is("back(1)", votes.back(1), 4);
        stateIs(votes, 3, 1, 1, 0, 0, 4, 1, 1);
        votes.weather(7);
        Due.is("undo() of what is new", votes.undo(), 0);
        Due.is("now(0)", votes.now(0), 4);
        votes.weather(7);
        Due.is("keep(0) again", votes.keep(0), 7);
        Due.is("back(1) again", votes.back(1), 4);
        Due.is("back(0) again", votes.back(0), 7);
    }

    private static void stateIs(MonkeyVotes votes, int... want) {
        int[] got = {
            votes.monkey(0, 2), votes.monkey(0, 3), votes.organ(0, 1), votes.organ(1, 0),
            votes.organ(1, 1), votes.now(0), votes.now(1), votes.now(2)
        };
        for (int i = 0; i < want.length; i++) {
            Due.is("part " + i + " of what an image kept", got[i], want[i]);
        }
    }

    private static void imagesKeepNothingElse() {
        MonkeyVotes votes = Due.told("m0 7 6 6 6;");
        votes.keep(0);
        votes.knows(0, 1, 1);
        votes.rate(0, 0);
        votes.type('x');
        votes.keep(1);
        votes.forget();
        votes.back(0);
        Due.is("count(4) behind back()", votes.count(4), 0);
        votes.knows(0, 1, 1);
        votes.knows(0, 1, 1);
        votes.back(1);
        Due.is("count(4) behind back()", votes.count(4), 2);
        Due.is("count(5) behind back()", votes.count(5), 1);
        Due.is("trace() behind back()", votes.trace(), 1);
    }

    private static void count() {
        MonkeyVotes votes = Due.told("s5;t2;m0 7 6 6;m0 7 6 6;m0 7 6 6;m0 7 6 6;o0 0;");
        votes.knows(0, 1, 1);
        votes.knows(1, 1, 0);
        Due.types(votes, "abcdef");
        int[] counts = {5, 2, 4, 1, 2, 6};
        for (int what = 0; what < counts.length; what++) {
            Due.is("count(" + what + ")", votes.count(what), counts[what]);
        }
        Due.is("count(-1)", votes.count(-1), BAD);
        Due.is("count(6)", votes.count(6), BAD);
    }
}
