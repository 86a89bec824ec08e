/** Promises 1 to 8 and 27: the text, and what it tells. */
public final class KingdomTest {
    private static final int NO = MonkeyVotes.NO;
    private static final int BAD = MonkeyVotes.BAD;

    public static void main(String[] args) {
        aNewObject();
        typeAndClear();
        itemsThatStand();
        faultsOfItems();
        faultsOfNumbers();
        faultsOfLetters();
        aFaultChangesNothing();
        allAnew();
        monkeys();
        organs();
        now();
        Due.end();
    }

    private static void aNewObject() {
        MonkeyVotes votes = new MonkeyVotes();
        int[] counts = {3, 3, 0, 0, 0, 0};
        for (int what = 0; what < counts.length; what++) {
            Due.is("new: count(" + what + ")", votes.count(what), counts[what]);
        }
        for (int what = 0; what <= 6; what++) {
            Due.is("new: now(" + what + ")", votes.now(what), 0);
        }
        Due.is("new: trace()", votes.trace(), 0);
        Due.is("new: undo()", votes.undo(), MonkeyVotes.STATE);
        Due.is("new: back(0)", votes.back(0), MonkeyVotes.STATE);
        Due.is("new: monkey(0, 0)", votes.monkey(0, 0), NO);
        Due.is("new: organ(0, 0)", votes.organ(0, 0), BAD);
        Due.is("new: count(-1)", votes.count(-1), BAD);
        Due.is("new: count(6)", votes.count(6), BAD);
    }

    private static void typeAndClear() {
        MonkeyVotes votes = new MonkeyVotes();
        Due.is("clear() of nothing", votes.clear(), 0);
        Due.is("type(-1)", votes.type(-1), BAD);
        Due.is("type(256)", votes.type(256), BAD);
        Due.is("type(0)", votes.type(0), 1);
        Due.is("type(255)", votes.type(255), 2);
        Due.is("count(5)", votes.count(5), 2);
        for (int i = 3; i <= 150; i++) {
            Due.is("type(32)", votes.type(32), i);
        }
        Due.is("type(32) of a full text", votes.type(32), MonkeyVotes.FULL);
        Due.is("type(256) of a full text", votes.type(256), BAD);
        Due.is("type(-1) of a full text", votes.type(-1), BAD);
        Due.is("count(5) of a full text", votes.count(5), 150);
        Due.is("clear() of a full text", votes.clear(), 150);
        Due.is("count(5) behind clear()", votes.count(5), 0);
        Due.is("type(59) behind clear()", votes.type(59), 1);
    }

    private static void itemsThatStand() {
        Due.items("", 0);
        Due.items("     ", 0);
        Due.items("s1;", 1);
        Due.items("s5;t4;", 2);
        Due.items("t1;s1;", 2);
        Due.items("  s  2  ;  t  4  ;  ", 2);
        Due.items("m0 0 0 0 0;m2 9 6 6 6;o2 15;o0 0;", 4);
        Due.items("o0 0;m0 0 3 3 3;o0 0;", 3);
        Due.items("t1;m0 0 0;m0 0 0;m0 0 0;m0 0 0;m0 0 0;m0 0 0;o0 0;o0 0;o0 0;", 10);
        Due.items("s5;t4;m4 9 6 6 6 6;o4 15;", 4);
    }

    private static void faultsOfItems() {
        Due.fault(";", 0);
        Due.fault("s1;;", 3);
        Due.fault("3", 0);
        Due.fault("s1;2", 3);
        Due.fault("s1;s1;", 3);
        Due.fault("t1;t1;", 3);
        Due.fault("t1;s1;t1;", 6);
        Due.fault("m0 0 3 3 3;s1;", 11);
        Due.fault("m0 0 3 3 3;t1;", 11);
        Due.fault("o0 0;s1;", 5);
        Due.fault("o0 0; t1;", 6);
        Due.fault("ss1;", 1);
        Due.fault("smo", 1);
        Due.fault("m0 0 3 m", 7);
        Due.fault("t1;m0 0 0;m0 0 0;m0 0 0;m0 0 0;m0 0 0;m0 0 0;m0 0 0;", 45);
        Due.fault("o0 0;o0 0;o0 0;o0 0;", 15);
        Due.fault("s", 1);
        Due.fault("s3", 2);
        Due.fault("s3   ", 5);
        Due.fault("s3;m0 0 3 3", 11);
        Due.fault("o", 1);
        // Numbers of a text that was cleared do not count for the next one.
        MonkeyVotes votes = new MonkeyVotes();
        Due.types(votes, "m0 0 3");
        Due.is("kingdom() of half an item", votes.kingdom(), -10 - 6);
        votes.clear();
        Due.types(votes, "7;");
        Due.is("kingdom() of a number behind it", votes.kingdom(), -10);
        votes.clear();
        Due.types(votes, "o2 7;");
        Due.is("kingdom() of an item behind it", votes.kingdom(), 1);
        // A letter of the cleared text that stands behind the text is none of it.
        Due.types(votes, "s345");
        votes.clear();
        Due.types(votes, "s3");
        Due.is("kingdom() of a shorter text", votes.kingdom(), -10 - 2);
    }

    private static void faultsOfNumbers() {
        Due.fault("s;", 1);
        Due.fault("t ;", 2);
        Due.fault("s0;", 1);
        Due.fault("s6;", 1);
        Due.fault("t0;", 1);
        Due.fault("t5;", 1);
        Due.fault("s1 1;", 3);
        Due.fault("m3 0 3 3 3;", 1);
        Due.fault("s1;m1 0 3 3 3;", 4);
        Due.fault("m0 10 3 3 3;", 3);
        Due.fault("m0 0 7 3 3;", 5);
        Due.fault("m0 0 3 3 7;", 9);
        Due.fault("m0 0 3 3;", 8);
        Due.fault("m0 0 3 3 3 3;", 11);
        Due.fault("t4;m0 0 3 3 3;", 13);
        Due.fault("m;", 1);
        Due.fault("m0;", 2);
        Due.fault("m0 0;", 4);
        Due.fault("o3 0;", 1);
        Due.fault("o0 16;", 3);
        Due.fault("o0;", 2);
        Due.fault("o0 0 0;", 5);
        Due.fault("s 100;", 2);
        Due.fault("s 4294967297;", 2);
        Due.fault("s 01;", 2);
        Due.fault("s 00;", 2);
        Due.fault("o0 007;", 3);
        Due.fault("s12", 1);
    }

    private static void faultsOfLetters() {
        Due.fault("x", 0);
        Due.fault("s3;\tt3;", 3);
        Due.fault("s3\n;", 2);
        Due.fault("s-1;", 1);
        Due.fault("S3;", 0);
        Due.fault("s3:", 2);
        Due.fault("s3/", 2);
        Due.fault("m0 0 3 3 3,", 10);
        Due.fault("s3;" + (char) 255, 3);
        Due.fault("s3;" + (char) 0, 3);
        // The first token at fault counts, be it a wrong letter or not.
        Due.fault("s6 x", 1);
        Due.fault("x s6", 0);
    }

    private static void aFaultChangesNothing() {
        MonkeyVotes votes = Due.told("s2;t2;m1 5 6 0;o1 7;");
        votes.knows(0, 1, 1);
        votes.gives(0);
        votes.keep(1);
        Due.types(votes, "s5;t4;m0 0 3 3 3 3;o9");
        Due.is("kingdom() with a fault", votes.kingdom(), -10 - 20);
        int[] counts = {2, 2, 1, 1, 1, 21};
        for (int what = 0; what < counts.length; what++) {
            Due.is("behind a fault: count(" + what + ")", votes.count(what), counts[what]);
        }
        Due.is("behind a fault: monkey(0, 0)", votes.monkey(0, 0), 1);
        Due.is("behind a fault: monkey(0, 3)", votes.monkey(0, 3), 1);
        Due.is("behind a fault: like(0, 1)", votes.like(0, 1), -3);
        Due.is("behind a fault: organ(0, 1)", votes.organ(0, 1), 7);
        Due.is("behind a fault: back(1)", votes.back(1), 0);
        votes.clear();
        Due.types(votes, "s4;");
        Due.is("kingdom() behind a fault and clear()", votes.kingdom(), 1);
        Due.is("behind it: count(0)", votes.count(0), 4);
    }

    private static void allAnew() {
        MonkeyVotes votes = Due.told("s5;t4;m4 5 6 0 3 3;o4 7;");
        votes.poll();
        votes.gives(0);
        votes.poll();
        votes.plays(0, 0);
        votes.gives(0);
        votes.weather(5);
        votes.knows(3, 3, 0);
        votes.keep(0);
        votes.keep(1);
        votes.rate(0, 0);
        Due.types(votes, "m1 5 6 0 3;o2 1;");
        Due.is("kingdom() once more", votes.kingdom(), 2);
        int[] counts = {3, 3, 1, 1, 0, 0};
        for (int what = 0; what < counts.length; what++) {
            Due.is("anew: count(" + what + ")", votes.count(what), counts[what]);
        }
        for (int what = 0; what <= 6; what++) {
            Due.is("anew: now(" + what + ")", votes.now(what), 0);
        }
        Due.is("anew: monkey(0, 2)", votes.monkey(0, 2), 0);
        Due.is("anew: monkey(0, 3)", votes.monkey(0, 3), 0);
        Due.is("anew: organ(0, 0)", votes.organ(0, 0), 2);
        Due.is("anew: organ(0, 1)", votes.organ(0, 1), 1);
        Due.is("anew: undo()", votes.undo(), MonkeyVotes.STATE);
        Due.is("anew: back(0)", votes.back(0), MonkeyVotes.STATE);
        Due.is("anew: back(1)", votes.back(1), MonkeyVotes.STATE);
        Due.is("anew: trace()", votes.trace(), 1);
        Due.is("kingdom() of no text", votes.kingdom(), 0);
        Due.is("of no text: count(2)", votes.count(2), 0);
        Due.is("of no text: count(3)", votes.count(3), 0);
    }

    private static void monkeys() {
        MonkeyVotes votes = Due.told("s4;t2;m3 9 0 6;m1 2 4 2;o3 0;");
        Due.is("monkey(0, 0)", votes.monkey(0, 0), 3);
        Due.is("monkey(0, 1)", votes.monkey(0, 1), 9);
        Due.is("monkey(1, 0)", votes.monkey(1, 0), 1);
        Due.is("monkey(1, 1)", votes.monkey(1, 1), 2);
        Due.is("like(0, 0)", votes.like(0, 0), -3);
        Due.is("like(0, 1)", votes.like(0, 1), 3);
        Due.is("like(1, 0)", votes.like(1, 0), 1);
        Due.is("like(1, 1)", votes.like(1, 1), -1);
        votes.plays(0, 0);
        Due.is("monkey(0, 2)", votes.monkey(0, 2), -3);
        Due.is("monkey(0, 4)", votes.monkey(0, 4), -1);
        votes.gives(0);
        Due.is("monkey(0, 3)", votes.monkey(0, 3), 1);
        votes.gives(0);
        votes.gives(0);
        Due.is("monkey(0, 4) of mood and nuts 0", votes.monkey(0, 4), 0);
        votes.gives(0);
        Due.is("monkey(0, 4) of mood and nuts 1", votes.monkey(0, 4), 1);
        votes.gives(1);
        votes.weather(2);
        Due.is("monkey(1, 4) in a cold like its coat", votes.monkey(1, 4), 1);
        votes.weather(3);
        Due.is("monkey(1, 4) in a greater cold", votes.monkey(1, 4), 0);
        int[][] wrong = {{-1, 0}, {2, 0}, {0, -1}, {0, 5}, {6, 0}, {Integer.MAX_VALUE, 0}, {0, Integer.MIN_VALUE}};
        for (int[] w : wrong) {
            Due.is("monkey(" + w[0] + ", " + w[1] + ")", votes.monkey(w[0], w[1]), NO);
        }
        int[][] wrongLikes = {{-1, 0}, {2, 0}, {0, -1}, {0, 2}, {0, 4}, {6, 0}};
        for (int[] w : wrongLikes) {
            Due.is("like(" + w[0] + ", " + w[1] + ")", votes.like(w[0], w[1]), NO);
        }
    }

    private static void organs() {
        MonkeyVotes votes = Due.told("s4;o3 15;o0 0;");
        Due.is("organ(0, 0)", votes.organ(0, 0), 3);
        Due.is("organ(0, 1)", votes.organ(0, 1), 15);
        Due.is("organ(1, 0)", votes.organ(1, 0), 0);
        Due.is("organ(1, 1)", votes.organ(1, 1), 0);
        int[][] wrong = {{-1, 0}, {2, 0}, {3, 0}, {0, -1}, {0, 2}};
        for (int[] w : wrong) {
            Due.is("organ(" + w[0] + ", " + w[1] + ")", votes.organ(w[0], w[1]), BAD);
        }
    }

    private static void now() {
        MonkeyVotes votes = Due.told("t1;m0 5 3;m0 5 3;m0 1 3;m1 9 0;o1 0;");
        votes.gives(0);
        votes.gives(1);
        votes.gives(2);
        votes.plays(0, 0);
        votes.weather(2);
        int[] nows = {2, 0, 0, 2, 1, 1, 5};
        for (int what = 0; what < nows.length; what++) {
            Due.is("now(" + what + ")", votes.now(what), nows[what]);
        }
        votes.poll();
        votes.poll();
        votes.poll();
        Due.is("now(1)", votes.now(1), 1);
        Due.is("now(2)", votes.now(2), 2);
        Due.is("now(-1)", votes.now(-1), BAD);
        Due.is("now(7)", votes.now(7), BAD);
    }
}
