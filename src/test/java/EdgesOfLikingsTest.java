/** The sentences of part 3 of the document that name an end: KNOWN, CAN, TRY. */
public final class EdgesOfLikingsTest {
    private static final int BAD = MonkeyVotes.BAD;
    private static final int FULL = MonkeyVotes.FULL;
    private static final int NO = MonkeyVotes.NO;
    private static final int NONE = MonkeyVotes.NONE;

    public static void main(String[] args) {
        knownAtMost();
        knownByNumbers();
        knownTwice();
        forgets();
        rowsOfLikes();
        leastAndGreatest();
        canNone();
        canByNumbers();
        tryOfOneAtMost();
        tryOfTwo();
        tryTheLowest();
        trySmallestPart();
        goneWhenReadAnew();
        Due.end();
    }

    private static MonkeyVotes knowing(int tunes, int[]... known) {
        MonkeyVotes votes = Due.told("t" + tunes + ";");
        for (int i = 0; i < known.length; i++) {
            Due.is("knows()", votes.knows(known[i][0], known[i][1], known[i][2]), i + 1);
        }
        return votes;
    }

    private static void canIs(MonkeyVotes votes, int tune, int rows, int least, int greatest) {
        Due.is("can(" + tune + ", 0)", votes.can(tune, 0), rows);
        Due.is("can(" + tune + ", 1)", votes.can(tune, 1), least);
        Due.is("can(" + tune + ", 2)", votes.can(tune, 2), greatest);
    }

    private static void knownAtMost() {
        Due.by("KNOWN (6 at most)");
        MonkeyVotes votes = new MonkeyVotes();
        for (int i = 1; i <= 6; i++) {
            Due.is("knows(0, 0, 1)", votes.knows(0, 0, 1), i);
            Due.is("count(4)", votes.count(4), i);
        }
        Due.is("knows(2, 2, 1) of a seventh", votes.knows(2, 2, 1), FULL);
        Due.is("count(4)", votes.count(4), 6);
        canIs(votes, 2, 3 * 49, -3, 3);
        // The sixth still counts.
        MonkeyVotes last = knowing(3, new int[][] {{0, 0, 1}, {0, 0, 1}, {0, 0, 1}, {0, 0, 1}, {0, 0, 1}, {1, 1, 0}});
        canIs(last, 1, 3 * 7, 0, 0);
    }

    private static void knownByNumbers() {
        Due.by("KNOWN: HEARD TUNE a, then TUNE b (maybe the same), and VOTED v (-1, 0, 1)");
        for (int tunes = 1; tunes <= 4; tunes++) {
            int last = tunes - 1;
            MonkeyVotes votes = Due.told("t" + tunes + ";");
            Due.is("knows(-1, 0, 0)", votes.knows(-1, 0, 0), BAD);
            Due.is("knows(last and 1, 0, 0)", votes.knows(tunes, 0, 0), BAD);
            Due.is("knows(0, -1, 0)", votes.knows(0, -1, 0), BAD);
            Due.is("knows(0, last and 1, 0)", votes.knows(0, tunes, 0), BAD);
            Due.is("knows(0, 0, -2)", votes.knows(0, 0, -2), BAD);
            Due.is("knows(0, 0, 2)", votes.knows(0, 0, 2), BAD);
            Due.is("count(4)", votes.count(4), 0);
            Due.is("knows(0, 0, -1)", votes.knows(0, 0, -1), 1);
            Due.is("knows(last, 0, 0)", votes.knows(last, 0, 0), 2);
            Due.is("knows(0, last, 1)", votes.knows(0, last, 1), 3);
            Due.is("knows(last, last, 1)", votes.knows(last, last, 1), 4);
        }
    }

    private static void knownTwice() {
        Due.by("KNOWN: the same once more counts once more, and tells nothing new");
        MonkeyVotes votes = knowing(2, new int[][] {{0, 1, 0}});
        canIs(votes, 0, 7, -3, 3);
        Due.is("knows(0, 1, 0)", votes.knows(0, 1, 0), 2);
        Due.is("knows(1, 0, 0)", votes.knows(1, 0, 0), 3);
        canIs(votes, 0, 7, -3, 3);
    }

    private static void forgets() {
        Due.by("forget: Nothing is KNOWN: how much was");
        MonkeyVotes votes = new MonkeyVotes();
        Due.is("forget() of nothing", votes.forget(), 0);
        for (int known = 1; known <= 6; known++) {
            for (int i = 0; i < known; i++) {
                votes.knows(0, 0, 0);
            }
            Due.is("forget()", votes.forget(), known);
            Due.is("count(4)", votes.count(4), 0);
            Due.is("can(0, 0)", votes.can(0, 0), 343);
            Due.is("forget() again", votes.forget(), 0);
        }
    }

    private static void rowsOfLikes() {
        Due.by("CAN: rows of LIKES (-3 .. 3 of each TUNE): how many (the TUNE does not matter, but is one)");
        int rows = 1;
        for (int tunes = 1; tunes <= 4; tunes++) {
            rows *= 7;
            MonkeyVotes votes = Due.told("t" + tunes + ";");
            for (int tune = 0; tune < tunes; tune++) {
                canIs(votes, tune, rows, -3, 3);
            }
            Due.is("can(-1, 0)", votes.can(-1, 0), NO);
            Due.is("can(last and 1, 0)", votes.can(tunes, 0), NO);
        }
    }

    private static void leastAndGreatest() {
        Due.by("CAN: the least, the greatest LIKE of a TUNE in them");
        canIs(knowing(1, new int[] {0, 0, -1}), 0, 3, -3, -1);
        canIs(knowing(1, new int[] {0, 0, 0}), 0, 1, 0, 0);
        canIs(knowing(1, new int[] {0, 0, 1}), 0, 3, 1, 3);
        // Of two tunes 21 pairs are above 0 together, 7 are 0, 21 are below.
        canIs(knowing(2, new int[] {0, 1, 1}), 0, 21, -2, 3);
        canIs(knowing(2, new int[] {0, 1, 1}), 1, 21, -2, 3);
        canIs(knowing(2, new int[] {0, 1, 0}), 1, 7, -3, 3);
        canIs(knowing(2, new int[] {0, 1, -1}), 0, 21, -3, 2);
        MonkeyVotes two = knowing(2, new int[] {0, 0, -1}, new int[] {0, 1, 1});
        canIs(two, 0, 3, -2, -1);
        canIs(two, 1, 3, 2, 3);
        MonkeyVotes four = knowing(4, new int[] {3, 3, 1}, new int[] {3, 2, 0}, new int[] {2, 1, 1}, new int[] {1, 0, 0});
        // 3 is 1 or 2, 2 is its opposite, 1 is above that: (1, -1, 2 or 3), (2, -2, 3).
        canIs(four, 3, 3, 1, 2);
        canIs(four, 2, 3, -2, -1);
        canIs(four, 1, 3, 2, 3);
        canIs(four, 0, 3, -3, -2);
    }

    private static void canNone() {
        Due.by("CAN: NONE (there are none)");
        for (int tunes = 1; tunes <= 4; tunes++) {
            MonkeyVotes votes = knowing(tunes, new int[] {0, 0, 1}, new int[] {0, 0, -1});
            for (int tune = 0; tune < tunes; tune++) {
                canIs(votes, tune, 0, NONE, NONE);
            }
            Due.is("can(last and 1, 1) of none", votes.can(tunes, 1), NO);
            Due.is("next() of none", votes.next(), NONE);
            votes.forget();
            canIs(votes, tunes - 1, (int) Math.pow(7, tunes), -3, 3);
        }
    }

    private static void canByNumbers() {
        Due.by("can: how many (what = 0), the least (1), the greatest LIKE (2). NO: BAD");
        MonkeyVotes votes = knowing(2, new int[] {0, 0, 1}, new int[] {1, 1, -1});
        for (int tune = 0; tune < 2; tune++) {
            Due.is("can(tune, -1)", votes.can(tune, -1), NO);
            Due.is("can(tune, 3)", votes.can(tune, 3), NO);
        }
        canIs(votes, 0, 9, 1, 3);
        canIs(votes, 1, 9, -3, -1);
    }

    private static void tryOfOneAtMost() {
        Due.by("TRY: NONE (one can be at most)");
        MonkeyVotes one = knowing(1, new int[] {0, 0, 0});
        Due.is("can(0, 0)", one.can(0, 0), 1);
        Due.is("next() of one row", one.next(), NONE);
        MonkeyVotes oneOfMany = knowing(4, new int[] {0, 0, 0}, new int[] {1, 1, 0}, new int[] {2, 2, 0}, new int[] {3, 3, 0});
        Due.is("can(0, 0)", oneOfMany.can(0, 0), 1);
        Due.is("next() of one row", oneOfMany.next(), NONE);
        MonkeyVotes none = knowing(1, new int[] {0, 0, 0}, new int[] {0, 0, 1});
        Due.is("next() of no row", none.next(), NONE);
    }

    private static void tryOfTwo() {
        Due.by("TRY, where two can be");
        // Left are (-1, 2, 2, -3) and (-1, 2, 3, -3), which vote alike behind each tune.
        MonkeyVotes two = knowing(4, new int[] {0, 0, -1}, new int[] {0, 1, 1}, new int[] {0, 2, 1}, new int[] {1, 3, -1});
        Due.is("can(0, 0)", two.can(0, 0), 2);
        Due.is("next() of two rows", two.next(), 0);
    }

    private static void tryTheLowest() {
        Due.by("TRY: of several the lowest");
        for (int tunes = 1; tunes <= 4; tunes++) {
            Due.is("next() of all", Due.told("t" + tunes + ";").next(), 0);
        }
        int[][] known = {{0, 0, 0}, {1, 1, 1}, {2, 2, -1}};
        MonkeyVotes votes = Due.told("t4;");
        for (int i = 0; i < known.length; i++) {
            votes.knows(known[i][0], known[i][1], known[i][2]);
            Due.is("next()", votes.next(), i + 1);
        }
        votes.knows(3, 3, 1);
        Due.is("next() that parts nothing", votes.next(), 0);
    }

    private static void trySmallestPart() {
        Due.by("TRY: the TUNE by which the greatest part of these that VOTE alike is smallest");
        // Tune 0 has one part of all; tune 1 has parts of 3 (below 0), 3 (0) and 9 (above) of 15.
        MonkeyVotes votes = knowing(2, new int[] {0, 0, 1}, new int[] {0, 1, 1});
        Due.is("next()", votes.next(), 1);
        // Together they are below 0: each has parts of 15, 3 and 3.
        Due.is("next() of two alike", knowing(2, new int[] {0, 1, -1}).next(), 0);
        Due.is("next() of the last", knowing(3, new int[] {0, 1, 1}).next(), 2);
    }

    private static void goneWhenReadAnew() {
        Due.by("Read anew: nothing KNOWN");
        MonkeyVotes votes = knowing(4, new int[] {3, 3, 1}, new int[] {0, 3, 0});
        Due.types(votes, "t1;x");
        votes.kingdom();
        Due.is("count(4) behind a fault", votes.count(4), 2);
        votes.clear();
        Due.types(votes, "t1;");
        votes.kingdom();
        Due.is("count(4)", votes.count(4), 0);
        canIs(votes, 0, 7, -3, 3);
        Due.is("knows(0, 0, 0)", votes.knows(0, 0, 0), 1);
    }
}
