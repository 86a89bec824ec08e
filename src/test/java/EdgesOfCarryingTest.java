/** The sentences of part 3 of the document that name an end: CARRIES, PLAN, ROUND, BRIBES, ODDS. */
public final class EdgesOfCarryingTest {
    private static final int BAD = MonkeyVotes.BAD;
    private static final int NONE = MonkeyVotes.NONE;

    public static void main(String[] args) {
        carries();
        planOfFewest();
        planOfNone();
        planStays();
        planOfSeveralTheFirst();
        planOfTheLastRow();
        planWears();
        planByNumber();
        roundInEachStreet();
        roundOnce();
        roundOverTheRing();
        roundWears();
        bribesAtMost();
        bribesOfFewest();
        bribesOfSeveralTheFirst();
        bribesOfAll();
        bribesOfNone();
        oddsAtTheEnds();
        oddsOfThoseWhoVote();
        oddsInLeastTerms();
        oddsByNumber();
        Due.end();
    }

    private static void carries() {
        Due.by("CARRIES: whether it would be CARRIED");
        int[][] rows = {{}, {0}, {1}, {1, -1}, {1, 1, -1}, {-1}, {1, 1, -1, -1, 0}};
        int[] wants = {0, 0, 1, 0, 1, 0, 0};
        for (int i = 0; i < rows.length; i++) {
            Due.is("now(5) of row " + i, Moods.of(rows[i]).now(5), wants[i]);
        }
        MonkeyVotes votes = Due.told("t1;m0 4 3;m1 5 0;o1 0;");
        votes.gives(0);
        votes.plays(0, 0);
        Due.is("now(5) of one to one", votes.now(5), 0);
        votes.weather(5);
        Due.is("now(5) when the one for it is cold", votes.now(5), 0);
        MonkeyVotes other = Due.told("t1;m0 5 3;m1 4 0;o1 0;");
        other.gives(0);
        other.plays(0, 0);
        other.weather(5);
        Due.is("now(5) when the one against it is cold", other.now(5), 1);
    }

    private static void planIs(MonkeyVotes votes, int... row) {
        Due.is("plan(-1)", votes.plan(-1), row.length);
        for (int k = 0; k < 3; k++) {
            Due.is("plan(" + k + ")", votes.plan(k), k < row.length ? row[k] : NONE);
        }
    }

    private static void noPlan(MonkeyVotes votes) {
        for (int k = -1; k < 3; k++) {
            Due.is("plan(" + k + ") of none", votes.plan(k), NONE);
        }
    }

    private static void planOfFewest() {
        Due.by("PLAN: the fewest TUNES PLAYED (0 .. 3)");
        planIs(Moods.of(99));
        planIs(Moods.of(1));
        planIs(Moods.of(0), 0);
        planIs(Moods.of(-2), 0);
        planIs(Moods.of(-3), 0, 0);
        planIs(Moods.of(-5), 0, 0);
        planIs(Moods.of(-6), 0, 0, 0);
        planIs(Moods.of(-8), 0, 0, 0);
        noPlan(Moods.of(-9));
        noPlan(Moods.of(-99));
    }

    private static void planOfNone() {
        Due.by("PLAN: NONE");
        noPlan(new MonkeyVotes());
        noPlan(Due.told("o0 0;o1 0;o2 0;"));
        noPlan(Due.told("m0 9 6 6 6;"));
        noPlan(Due.told("t1;m0 9 3;o0 0;"));
        MonkeyVotes cold = Due.told("t1;m0 8 6;o0 0;");
        cold.weather(9);
        noPlan(cold);
        MonkeyVotes noOrgan = Due.told("m0 9 6 6 6;");
        noOrgan.gives(0);
        planIs(noOrgan);
    }

    private static void planStays() {
        Due.by("PLAN: ORGANS staying where they are");
        MonkeyVotes votes = Due.told("s2;t1;m1 9 6;o0 0;");
        noPlan(votes);
        votes.moves(0, 1);
        planIs(votes, 0);
    }

    private static void planOfSeveralTheFirst() {
        Due.by("PLAN: of several rows the first (the lowest ORGAN, then the lowest TUNE first, then the second ..)");
        planIs(Due.told("t2;m0 9 3 4;m1 9 4 4;o0 0;o1 0;"), 1);
        planIs(Due.told("t2;m0 9 3 3;m1 9 4 4;o0 0;o1 0;"), 10);
        planIs(Due.told("t4;m0 9 3 3 4 4;o0 0;o0 0;"), 2);
        // One is against it, so that two must be won, by two organs.
        MonkeyVotes two = Due.told("s3;t2;m0 9 3 6;m1 9 3 6;m2 9 0 0;o0 0;o1 0;o2 0;");
        two.plays(2, 0);
        planIs(two, 1, 11);
        // Two are against it, so that three must be won.
        MonkeyVotes three = Due.told("s5;t1;m0 9 6;m1 9 6;m2 9 6;m3 9 0;m3 9 0;o1 0;o2 0;o0 0;");
        for (int i = 0; i < 3; i++) {
            three.moves(2, 1);
        }
        three.plays(2, 0);
        for (int i = 0; i < 2; i++) {
            three.moves(2, 1);
        }
        Due.is("organ(2, 0)", three.organ(2, 0), 0);
        planIs(three, 0, 10, 20);
        // The first tune is of no use by itself, but the row with it is the first of its length.
        MonkeyVotes idle = Due.told("s2;t2;m0 9 3 3;m1 9 1 5;o0 0;o1 0;");
        idle.plays(1, 0);
        planIs(idle, 11, 11);
        MonkeyVotes idleFirst = Due.told("s2;t2;m0 9 4 3;m1 9 1 6;o0 0;o1 0;");
        idleFirst.plays(1, 0);
        planIs(idleFirst, 11);
    }

    private static void planOfTheLastRow() {
        Due.by("PLAN: 10 times the ORGAN and the TUNE");
        MonkeyVotes votes = Due.told("s2;t4;m1 9 0 0 0 6;o0 0;o0 0;o1 0;");
        planIs(votes, 23);
        for (int i = 0; i < 3; i++) {
            votes.plays(2, 0);
        }
        votes.mends(2);
        votes.gives(0);
        planIs(votes, 23, 23, 23);
        votes.undo();
        noPlan(votes);
    }

    private static void planWears() {
        Due.by("PLAN: TUNES PLAYED, one behind another, by ORGANS that wear");
        // At wear 2 tune 0 is heard twice as tune 0, then as tune 1.
        MonkeyVotes votes = Due.told("s1;t2;m0 9 6 0;o0 2;");
        Moods.hears(votes, 1);
        Moods.hears(votes, 1);
        votes.plays(0, 0);
        votes.plays(0, 1);
        Due.is("mood", votes.monkey(0, 2), -6);
        Due.is("wear", votes.organ(0, 1), 3);
        planIs(votes, 0, 1, 1);
        // At wear 15 a tune is heard as the third behind it, time and again.
        MonkeyVotes worn = Due.told("s1;t4;m0 9 0 0 6 0;o0 15;");
        worn.plays(0, 0);
        worn.plays(0, 0);
        Due.is("mood", worn.monkey(0, 2), -6);
        planIs(worn, 3, 3, 3);
    }

    private static void planByNumber() {
        Due.by("plan: how many (k = -1), the k-th; BAD (below -1, above 2)");
        for (int which = 0; which < Scenes.MANY; which++) {
            MonkeyVotes votes = Scenes.scene(which);
            Due.is("plan(-2)", votes.plan(-2), BAD);
            Due.is("plan(3)", votes.plan(3), BAD);
            Due.is("plan(-1) is taken", votes.plan(-1) == BAD ? 0 : 1, 1);
            Due.is("plan(2) is taken", votes.plan(2) == BAD ? 0 : 1, 1);
        }
    }

    private static void roundInEachStreet() {
        Due.by("ROUND: once in each STREET: behind how many times (1 ..)");
        for (int streets = 1; streets <= 5; streets++) {
            for (int home = 0; home < streets; home++) {
                for (int from = 0; from < streets; from++) {
                    MonkeyVotes votes = Due.told("s" + streets + ";t1;m" + home + " 9 4;o" + from + " 0;");
                    int want = Math.floorMod(home - from, streets) + 1;
                    Due.is("round(0, 0) from " + from + " to " + home, votes.round(0, 0), want);
                    Due.is("organ(0, 0) behind it", votes.organ(0, 0), from);
                }
            }
        }
    }

    private static void roundOnce() {
        Due.by("ROUND: once in each STREET; NONE");
        for (int streets = 1; streets <= 5; streets++) {
            // The mood is -3: the first tune brings it to 0, one in a second round would be too late.
            MonkeyVotes votes = Due.told("s" + streets + ";t2;m0 9 6 0;o0 0;");
            votes.plays(0, 1);
            Due.is("round(0, 0) of mood -3", votes.round(0, 0), NONE);
            votes.gives(0);
            Due.is("round(0, 0) of mood -3 and a nut", votes.round(0, 0), 1);
        }
        Due.is("round(0, 0) of nobody", Due.told("o0 0;").round(0, 0), NONE);
        MonkeyVotes carried = Due.told("s2;t1;m0 9 3;m1 9 3;o0 0;");
        carried.gives(0);
        Due.is("round(0, 0) if it carries already", carried.round(0, 0), 1);
        MonkeyVotes spoilt = Due.told("s2;t1;m0 9 2;m1 9 6;m1 9 6;o0 0;");
        spoilt.gives(0);
        Due.is("round(0, 0) if it carries, but not behind the first", spoilt.round(0, 0), 2);
        MonkeyVotes late = Due.told("s3;t1;m0 9 6;m0 9 6;m1 9 0;m2 9 0;o0 0;");
        Due.is("round(0, 0) if it carries first, then no more", late.round(0, 0), 1);
    }

    private static void roundOverTheRing() {
        Due.by("ROUND: it plays where it is, goes on, over the ring's end");
        MonkeyVotes votes = Due.told("s3;t1;m2 9 0;m0 9 6;m1 9 6;o2 0;o1 0;");
        Due.is("round(0, 0): last, first, second", votes.round(0, 0), 3);
        Due.is("round(1, 0): second", votes.round(1, 0), 1);
    }

    private static void roundWears() {
        Due.by("ROUND: it plays, and wears");
        // Heard are 0 at wear 3, then 1 at wear 4.
        Due.is("round(0, 0) of wear 3", Due.told("s2;t2;m0 9 3 6;m1 9 3 6;o0 3;").round(0, 0), 2);
        Due.is("round(0, 0) of wear 2", Due.told("s2;t2;m0 9 3 6;m1 9 3 6;o0 2;").round(0, 0), NONE);
        Due.is("round(0, 0) of wear 4", Due.told("s2;t2;m0 9 3 6;m1 9 3 6;o0 4;").round(0, 0), 1);
        // Behind wear 15 there is no 16, by which tune 0 would be heard as tune 0.
        Due.is("round(0, 0) of wear 15", Due.told("s2;t4;m0 9 6 6 6 3;m1 9 6 6 6 3;o0 15;").round(0, 0), NONE);
        Due.is("round(0, 3) of wear 15", Due.told("s2;t4;m0 9 3 3 3 3;m1 9 3 3 6 3;o0 15;").round(0, 3), 2);
    }

    private static void bribesAre(MonkeyVotes votes, int... nuts) {
        int all = 0;
        for (int m = 0; m < nuts.length; m++) {
            Due.is("bribes(" + m + ")", votes.bribes(m), nuts[m]);
            all += nuts[m];
        }
        Due.is("bribes(-1)", votes.bribes(-1), all);
        Due.is("bribes(-2)", votes.bribes(-2), BAD);
        Due.is("bribes(" + nuts.length + ")", votes.bribes(nuts.length), BAD);
    }

    private static void noBribes(MonkeyVotes votes) {
        int monkeys = votes.count(2);
        for (int m = -1; m < monkeys; m++) {
            Due.is("bribes(" + m + ") of none", votes.bribes(m), NONE);
        }
        Due.is("bribes(-2)", votes.bribes(-2), BAD);
        Due.is("bribes(" + monkeys + ")", votes.bribes(monkeys), BAD);
    }

    private static void bribesAtMost() {
        Due.by("BRIBES: 9 at most each MONKEY has then");
        bribesAre(Moods.of(1), 0);
        bribesAre(Moods.of(0), 1);
        bribesAre(Moods.of(-1), 2);
        bribesAre(Moods.of(-8), 9);
        noBribes(Moods.of(-9));
        noBribes(Moods.of(-99));
        MonkeyVotes some = Moods.of(-8);
        Moods.gives(some, 0, 1);
        bribesAre(some, 8);
        Moods.gives(some, 0, 7);
        bribesAre(some, 1);
        Moods.gives(some, 0, 1);
        bribesAre(some, 0);
        MonkeyVotes full = Moods.of(-9);
        Moods.gives(full, 0, 9);
        noBribes(full);
        // 9 nuts bring the first to 0, 10 would be too many.
        bribesAre(Moods.of(-9, 0), 9, 1);
        noBribes(Moods.of(-10, 0));
    }

    private static void bribesOfFewest() {
        Due.by("BRIBES: that of fewest");
        // Two outvote the second, whom 5 nuts would only bring to 0.
        bribesAre(Moods.of(-1, -5, 0), 2, 0, 1);
        // 2 nuts turn the first; to silence both who are against it would take 3.
        bribesAre(Moods.of(-1, 1, -2), 2, 0, 0);
        // A nut silences the second; to turn it would take 2.
        bribesAre(Moods.of(1, -1), 0, 1);
        bribesAre(Moods.of(99, -99, -99, 99, 0), 0, 0, 0, 0, 1);
    }

    private static void bribesOfSeveralTheFirst() {
        Due.by("BRIBES: of several the first (MONKEY by MONKEY, the fewest NUTS)");
        bribesAre(Moods.of(0, 0, 0, 0, 0), 0, 0, 0, 0, 1);
        // 2 nuts turn the last, or win two others, or win one and silence the last: the first gets none.
        bribesAre(Moods.of(0, 0, 0, 0, -1), 0, 0, 0, 0, 2);
        bribesAre(Moods.of(-1, 0, 0, 0, 0), 0, 0, 0, 1, 1);
        // 9 nuts turn one, and two may stay against it.
        bribesAre(Moods.of(-8, -8, -8, -8, -8), 0, 0, 9, 9, 9);
        bribesAre(Moods.of(-1, -1), 1, 2);
        bribesAre(Moods.of(-2, 0, 0), 0, 1, 1);
        bribesAre(Moods.of(1, -1, 0), 0, 0, 1);
        bribesAre(Moods.of(1, 0, -1), 0, 0, 1);
        bribesAre(Moods.of(1, -1, -1), 0, 0, 2);
    }

    private static void bribesOfAll() {
        Due.by("BRIBES: as many NUTS as can be, to as many MONKEYS");
        String likes = "m0 9 0 0;".repeat(5);
        MonkeyVotes five = Due.told("s1;t2;" + likes + "m0 9 0 1;o0 0;");
        five.plays(0, 0);
        five.plays(0, 0);
        five.plays(0, 1);
        Due.is("mood of the first", five.monkey(0, 2), -9);
        Due.is("mood of the last", five.monkey(5, 2), -8);
        bribesAre(five, 9, 9, 9, 9, 9, 9);
        five.weather(9);
        bribesAre(five, 9, 9, 9, 9, 9, 9);
        MonkeyVotes six = Due.told("s1;t2;" + likes + "m0 9 0 0;o0 0;");
        for (int i = 0; i < 3; i++) {
            six.plays(0, 0);
        }
        noBribes(six);
        // Three outvote two, if one is brought to 0: 35; four would take 36.
        MonkeyVotes alike = Due.told("s1;t2;" + "m0 9 0 1;".repeat(6) + "o0 0;");
        alike.plays(0, 0);
        alike.plays(0, 0);
        alike.plays(0, 1);
        bribesAre(alike, 0, 0, 8, 9, 9, 9);
    }

    private static void bribesOfNone() {
        Due.by("BRIBES: NONE; BAD");
        noBribes(new MonkeyVotes());
        noBribes(Due.told("o0 0;"));
        MonkeyVotes cold = Due.told("t1;" + "m0 8 3;".repeat(6));
        cold.weather(8);
        bribesAre(cold, 0, 0, 0, 0, 0, 1);
        cold.weather(9);
        noBribes(cold);
        MonkeyVotes oneWarm = Due.told("t1;m0 9 3;m0 8 3;m0 0 3;");
        oneWarm.weather(9);
        bribesAre(oneWarm, 1, 0, 0);
    }

    private static void oddsAre(MonkeyVotes votes, int x, int upper, int lower) {
        Due.is("odds(" + x + ", 0)", votes.odds(x, 0), upper);
        Due.is("odds(" + x + ", 1)", votes.odds(x, 1), lower);
    }

    private static void oddsAtTheEnds() {
        Due.by("ODDS by x (0 .. 10)");
        int[][] rows = {{}, {0}, {1}, {-1}, {1, -1}, {1, 1, -1}, {1, -1, -1}, {1, 1, 1, 1, 1}};
        int[] carries = {0, 0, 1, 0, 0, 1, 0, 1};
        for (int i = 0; i < rows.length; i++) {
            MonkeyVotes votes = Moods.of(rows[i]);
            oddsAre(votes, 0, carries[i], 1);
            oddsAre(votes, 10, 0, 1);
            for (int what = 0; what <= 1; what++) {
                Due.is("odds(-1, " + what + ")", votes.odds(-1, what), BAD);
                Due.is("odds(11, " + what + ")", votes.odds(11, what), BAD);
            }
        }
        // It is carried if the one for it is awake and the one against it is asleep.
        oddsAre(Moods.of(1, -1), 9, 9, 100);
        oddsAre(Moods.of(1, -1), 1, 9, 100);
        oddsAre(Moods.of(1), 9, 1, 10);
        oddsAre(Moods.of(1), 1, 9, 10);
    }

    private static void oddsOfThoseWhoVote() {
        Due.by("ODDS: each MONKEY that would VOTE is asleep by x of 10, for itself");
        oddsAre(Moods.of(1, 0, 0, 0, 0), 3, 7, 10);
        oddsAre(Moods.of(0, 0, 0, 0, 0), 3, 0, 1);
        MonkeyVotes cold = Due.told("t1;m0 9 3;m0 3 3;m0 4 3;");
        for (int m = 0; m < 3; m++) {
            cold.gives(m);
        }
        oddsAre(cold, 1, 999, 1000);
        cold.weather(4);
        oddsAre(cold, 1, 99, 100);
        cold.weather(5);
        oddsAre(cold, 1, 9, 10);
    }

    private static void oddsInLeastTerms() {
        Due.by("odds: upper (what = 0), lower number (1), in least terms");
        MonkeyVotes six = Due.told("t1;" + "m0 0 3;".repeat(6));
        for (int m = 0; m < 6; m++) {
            six.gives(m);
        }
        int[] uppers = {1, 999999, 15624, 999271, 15561, 63, 14896, 882351, 11529, 468559, 0};
        int[] lowers = {1, 1000000, 15625, 1000000, 15625, 64, 15625, 1000000, 15625, 1000000, 1};
        for (int x = 0; x <= 10; x++) {
            oddsAre(six, x, uppers[x], lowers[x]);
        }
        MonkeyVotes one = Moods.of(1);
        int[] uppersOfOne = {1, 9, 4, 7, 3, 1, 2, 3, 1, 1, 0};
        int[] lowersOfOne = {1, 10, 5, 10, 5, 2, 5, 10, 5, 10, 1};
        for (int x = 0; x <= 10; x++) {
            oddsAre(one, x, uppersOfOne[x], lowersOfOne[x]);
        }
    }

    private static void oddsByNumber() {
        Due.by("odds: upper (what = 0), lower number (1). BAD");
        for (int which = 0; which < Scenes.MANY; which++) {
            MonkeyVotes votes = Scenes.scene(which);
            for (int x = 0; x <= 10; x++) {
                Due.is("odds(" + x + ", -1)", votes.odds(x, -1), BAD);
                Due.is("odds(" + x + ", 2)", votes.odds(x, 2), BAD);
                Due.is("odds(" + x + ", 0) is taken", votes.odds(x, 0) >= 0 ? 1 : 0, 1);
                Due.is("odds(" + x + ", 1) is taken", votes.odds(x, 1) >= 1 ? 1 : 0, 1);
            }
        }
    }
}
