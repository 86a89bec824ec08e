/** Promises 16 to 19: how to carry it. */
public final class CarryingTest {
    private static final int BAD = MonkeyVotes.BAD;
    private static final int NONE = MonkeyVotes.NONE;

    public static void main(String[] args) {
        plan();
        planOfThree();
        planBehindWear();
        round();
        bribes();
        bribesToTurnVotes();
        odds();
        Due.end();
    }

    private static void planIs(MonkeyVotes votes, int... row) {
        Due.is("plan(-1)", votes.plan(-1), row.length);
        for (int k = 0; k < 3; k++) {
            Due.is("plan(" + k + ")", votes.plan(k), k < row.length ? row[k] : NONE);
        }
        Due.is("plan(-2)", votes.plan(-2), BAD);
        Due.is("plan(3)", votes.plan(3), BAD);
    }

    private static void noPlan(MonkeyVotes votes) {
        for (int k = -1; k < 3; k++) {
            Due.is("plan(" + k + ") of none", votes.plan(k), NONE);
        }
    }

    private static void plan() {
        noPlan(new MonkeyVotes());
        noPlan(Due.told("m0 9 6 6 6;"));
        noPlan(Due.told("m0 9 6 6 6;o1 0;"));
        MonkeyVotes votes = Due.told("m0 9 0 3 4;m1 9 3 3 6;o2 0;o1 0;o0 0;");
        planIs(votes, 12);
        Due.is("organ(1, 1) behind plan()", votes.organ(1, 1), 0);
        Due.is("monkey(1, 2) behind plan()", votes.monkey(1, 2), 0);
        Due.is("now(6) behind plan()", votes.now(6), 0);
        votes.gives(0);
        planIs(votes);
        votes.weather(9);
        planIs(votes);
    }

    private static void planOfThree() {
        // Organ 0 has no tune that its hearer likes, organ 1 has: 00 and 01 are in vain.
        planIs(Due.told("t2;m0 9 2 0;m1 9 5 3;m2 9 0 4;o0 0;o1 0;o2 0;"), 10);
        // One can be for it, but one is against it, and stays so.
        MonkeyVotes angry = Due.told("s2;t1;m0 9 4;m1 9 0;o0 0;o1 0;");
        angry.plays(1, 0);
        noPlan(angry);
        MonkeyVotes sour = Due.told("s2;t2;m0 9 0 6;o0 0;");
        sour.plays(0, 0);
        planIs(sour, 1, 1);
        sour.plays(0, 0);
        sour.mends(0);
        planIs(sour, 1, 1, 1);
        sour.plays(0, 0);
        sour.mends(0);
        noPlan(sour);
    }

    private static void planBehindWear() {
        // At wear 3 the organ still plays tune 0; behind it tune 0 is heard as tune 1.
        MonkeyVotes votes = Due.told("s1;t2;m0 9 2 6;o0 3;");
        planIs(votes, 1);
        votes.plays(0, 0);
        planIs(votes, 0);
        // The mood is -1, and by the first tune the pins wear so that tune 1 is heard as tune 0.
        MonkeyVotes slips = Due.told("s1;t2;m0 9 4 2;o0 2;");
        slips.plays(0, 1);
        planIs(slips, 0, 1);
    }

    private static void round() {
        MonkeyVotes votes = Due.told("s3;t2;m0 9 3 4;m1 9 4 3;m2 9 0 0;m2 9 0 0;o1 0;o2 8;o1 3;");
        Due.is("round(0, 0)", votes.round(0, 0), 1);
        Due.is("round(0, 1)", votes.round(0, 1), NONE);
        Due.is("round(1, 0)", votes.round(1, 0), NONE);
        Due.is("organ(0, 0) behind round()", votes.organ(0, 0), 1);
        Due.is("organ(0, 1) behind round()", votes.organ(0, 1), 0);
        MonkeyVotes last = Due.told("s5;t1;m4 9 6;o0 0;o4 15;");
        Due.is("round() to the last street", last.round(0, 0), 5);
        Due.is("round() over the ring's end", last.round(1, 0), 1);
        last.gives(0);
        Due.is("round() when it is carried ahead of it", last.round(0, 0), 1);
        MonkeyVotes worn = Due.told("s2;t2;m0 9 3 0;m1 9 3 6;o0 3;");
        Due.is("round() with a tune that slips", worn.round(0, 0), 2);
        MonkeyVotes one = Due.told("s1;t1;m0 9 4;o0 0;");
        Due.is("round() of one street", one.round(0, 0), 1);
        Due.is("round() of one street in vain", Due.told("s1;t1;m0 9 3;o0 0;").round(0, 0), NONE);
        int[][] wrong = {{-1, 0}, {3, 0}, {0, -1}, {0, 2}};
        for (int[] w : wrong) {
            Due.is("round(" + w[0] + ", " + w[1] + ")", votes.round(w[0], w[1]), BAD);
        }
    }

    private static void bribesAre(MonkeyVotes votes, int... nuts) {
        int all = 0;
        for (int m = 0; m < nuts.length; m++) {
            Due.is("bribes(" + m + ")", votes.bribes(m), nuts[m]);
            all += nuts[m];
        }
        Due.is("bribes(-1)", votes.bribes(-1), all);
        Due.is("bribes(" + nuts.length + ")", votes.bribes(nuts.length), BAD);
        Due.is("bribes(-2)", votes.bribes(-2), BAD);
    }

    private static void bribes() {
        MonkeyVotes none = new MonkeyVotes();
        Due.is("bribes(-1) of no monkeys", none.bribes(-1), NONE);
        Due.is("bribes(0) of no monkeys", none.bribes(0), BAD);
        MonkeyVotes votes = Due.told("t1;m0 9 3;m0 9 3;m0 0 3;");
        bribesAre(votes, 0, 0, 1);
        votes.weather(1);
        bribesAre(votes, 0, 1, 0);
        votes.gives(0);
        bribesAre(votes, 0, 0, 0);
        Due.is("monkey(1, 3) behind bribes()", votes.monkey(1, 3), 0);
        MonkeyVotes cold = Due.told("t1;m0 0 3;m0 8 3;");
        cold.weather(9);
        for (int m = -1; m < 2; m++) {
            Due.is("bribes(" + m + ") of the cold", cold.bribes(m), NONE);
        }
    }

    private static void bribesToTurnVotes() {
        MonkeyVotes votes = Due.told("s2;t1;m0 9 0;m1 9 3;m0 9 1;o0 0;");
        votes.plays(0, 0);
        // Moods -3, 0, -2: two for it outvote the first.
        bribesAre(votes, 0, 1, 3);
        votes.gives(1);
        bribesAre(votes, 0, 0, 3);
        // Moods -3, 0, -3 and one nut for the second: the later one gets the nuts.
        MonkeyVotes alike = Due.told("s2;t1;m0 9 0;m1 9 3;m0 9 0;o0 0;");
        alike.plays(0, 0);
        bribesAre(alike, 0, 1, 4);
        // Moods -1, 0: it is enough that the first one does not vote, and the second does.
        MonkeyVotes silent = Due.told("s2;t1;m0 9 2;m1 9 3;o0 0;");
        silent.plays(0, 0);
        bribesAre(silent, 1, 1);
        MonkeyVotes far = Due.told("t1;m0 9 0;m0 9 2;o0 0;");
        for (int i = 0; i < 3; i++) {
            far.plays(0, 0);
        }
        Due.is("mood", far.monkey(0, 2), -9);
        // 9 nuts bring the first to 0, 4 the second to 1: 13; no tenth nut for the first.
        bribesAre(far, 9, 4);
        far.plays(0, 0);
        Due.is("bribes(-1) beyond 9 nuts", far.bribes(-1), NONE);
        Due.is("bribes(0) beyond 9 nuts", far.bribes(0), NONE);
        MonkeyVotes some = Due.told("t1;m0 9 0;o0 0;");
        some.gives(0);
        some.gives(0);
        for (int i = 0; i < 2; i++) {
            some.plays(0, 0);
        }
        bribesAre(some, 5);
        some.plays(0, 0);
        Due.is("bribes(-1) of nuts that are there", some.bribes(-1), NONE);
    }

    private static void oddsAre(MonkeyVotes votes, int x, int upper, int lower) {
        Due.is("odds(" + x + ", 0)", votes.odds(x, 0), upper);
        Due.is("odds(" + x + ", 1)", votes.odds(x, 1), lower);
    }

    private static void odds() {
        oddsAre(new MonkeyVotes(), 0, 0, 1);
        MonkeyVotes votes = Due.told("s2;t1;m0 9 6;m0 9 6;m1 9 0;m1 5 3;m0 5 3;m0 5 6;o0 0;o1 0;");
        oddsAre(votes, 0, 0, 1);
        votes.gives(0);
        oddsAre(votes, 0, 1, 1);
        oddsAre(votes, 1, 9, 10);
        oddsAre(votes, 5, 1, 2);
        oddsAre(votes, 10, 0, 1);
        votes.gives(1);
        oddsAre(votes, 5, 3, 4);
        oddsAre(votes, 1, 99, 100);
        votes.plays(1, 0);
        // Two are for it, one against it, at 5 of 10: 11 or 10 and 01 without the third.
        oddsAre(votes, 5, 1, 2);
        votes.weather(9);
        votes.gives(5);
        oddsAre(votes, 5, 1, 2);
        votes.undo();
        votes.undo();
        votes.gives(3);
        votes.gives(4);
        votes.gives(5);
        // All five for it and one against it, at 9 of 10.
        Due.is("now(3)", votes.now(3), 5);
        Due.is("now(4)", votes.now(4), 1);
        oddsAre(votes, 9, 75341, 200000);
        oddsAre(votes, 0, 1, 1);
        int[][] wrong = {{-1, 0}, {11, 0}, {0, -1}, {0, 2}};
        for (int[] w : wrong) {
            Due.is("odds(" + w[0] + ", " + w[1] + ")", votes.odds(w[0], w[1]), BAD);
        }
    }
}
