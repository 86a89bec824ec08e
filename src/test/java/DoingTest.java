/** Promises 9 to 15: what is done, and undone. */
public final class DoingTest {
    private static final int BAD = MonkeyVotes.BAD;
    private static final int STATE = MonkeyVotes.STATE;

    public static void main(String[] args) {
        plays();
        moodsHaveEnds();
        moves();
        mends();
        gives();
        weather();
        poll();
        undo();
        undoOfEach();
        Due.end();
    }

    private static void plays() {
        MonkeyVotes votes = Due.told("s2;t3;m0 9 6 2 3;m1 9 6 6 6;m0 0 0 4 5;o0 2;o1 15;");
        votes.weather(5);
        int[] heard = {0, 0, 1, 1, 1, 1, 2, 2, 2, 2, 0, 0, 0, 0, 0};
        int[] likes = {3, -1, 0};
        int[] coldLikes = {-3, 1, 2};
        int mood = 0;
        int coldMood = 0;
        for (int i = 0; i < heard.length; i++) {
            Due.is("plays(0, 0) for time " + i, votes.plays(0, 0), heard[i]);
            mood += likes[heard[i]];
            coldMood += coldLikes[heard[i]];
            Due.is("mood of who hears it", votes.monkey(0, 2), mood);
            Due.is("mood of who hears it and is cold", votes.monkey(2, 2), coldMood);
            Due.is("mood of who does not", votes.monkey(1, 2), 0);
            Due.is("wear", votes.organ(0, 1), Math.min(15, 3 + i));
        }
        Due.is("plays(1, 1)", votes.plays(1, 1), 1);
        Due.is("plays(1, 2)", votes.plays(1, 2), 2);
        int may = votes.now(6);
        int[][] wrong = {{-1, 0}, {2, 0}, {0, -1}, {0, 3}, {3, 0}};
        for (int[] w : wrong) {
            Due.is("plays(" + w[0] + ", " + w[1] + ")", votes.plays(w[0], w[1]), BAD);
        }
        Due.is("now(6) behind what is refused", votes.now(6), may);
    }

    private static void moodsHaveEnds() {
        MonkeyVotes votes = Due.told("t1;m0 9 6;m0 9 1;o0 0;");
        for (int i = 1; i <= 60; i++) {
            votes.plays(0, 0);
            Due.is("mood of who likes it", votes.monkey(0, 2), Math.min(99, 3 * i));
            Due.is("mood of who does not", votes.monkey(1, 2), Math.max(-99, -2 * i));
        }
    }

    private static void moves() {
        MonkeyVotes votes = Due.told("s3;o1 0;");
        Due.is("moves(0, 1)", votes.moves(0, 1), 2);
        Due.is("moves(0, 1) over the end", votes.moves(0, 1), 0);
        Due.is("moves(0, 0) over the end", votes.moves(0, 0), 2);
        Due.is("moves(0, 0)", votes.moves(0, 0), 1);
        Due.is("organ(0, 0)", votes.organ(0, 0), 1);
        int[][] wrong = {{-1, 0}, {1, 0}, {0, -1}, {0, 2}};
        for (int[] w : wrong) {
            Due.is("moves(" + w[0] + ", " + w[1] + ")", votes.moves(w[0], w[1]), BAD);
        }
        Due.is("now(6)", votes.now(6), 4);
        MonkeyVotes one = Due.told("s1;o0 0;");
        Due.is("moves(0, 1) with one street", one.moves(0, 1), STATE);
        Due.is("moves(0, 0) with one street", one.moves(0, 0), STATE);
        Due.is("moves(0, 2) with one street", one.moves(0, 2), BAD);
        Due.is("moves(1, 1) with one street", one.moves(1, 1), BAD);
        Due.is("now(6) with one street", one.now(6), 0);
        MonkeyVotes two = Due.told("s2;o1 0;");
        Due.is("moves(0, 0) with two streets", two.moves(0, 0), 0);
        Due.is("moves(0, 0) with two streets", two.moves(0, 0), 1);
        Due.is("moves(0, 1) with two streets", two.moves(0, 1), 0);
    }

    private static void mends() {
        MonkeyVotes votes = Due.told("o1 9;o0 0;");
        Due.is("mends(0)", votes.mends(0), 9);
        Due.is("organ(0, 1)", votes.organ(0, 1), 0);
        Due.is("mends(0) again", votes.mends(0), STATE);
        Due.is("mends(1)", votes.mends(1), STATE);
        Due.is("mends(2)", votes.mends(2), BAD);
        Due.is("mends(-1)", votes.mends(-1), BAD);
        Due.is("now(6)", votes.now(6), 1);
    }

    private static void gives() {
        MonkeyVotes votes = Due.told("m0 0 3 3 3;m0 0 3 3 3;");
        for (int nuts = 1; nuts <= 9; nuts++) {
            Due.is("gives(1)", votes.gives(1), nuts);
        }
        Due.is("gives(1) to who has 9", votes.gives(1), STATE);
        Due.is("monkey(1, 3)", votes.monkey(1, 3), 9);
        Due.is("monkey(0, 3)", votes.monkey(0, 3), 0);
        Due.is("gives(2)", votes.gives(2), BAD);
        Due.is("gives(-1)", votes.gives(-1), BAD);
        Due.is("now(6)", votes.now(6), 9);
    }

    private static void weather() {
        MonkeyVotes votes = new MonkeyVotes();
        Due.is("weather(0)", votes.weather(0), STATE);
        Due.is("weather(9)", votes.weather(9), 0);
        Due.is("now(0)", votes.now(0), 9);
        Due.is("weather(9) again", votes.weather(9), STATE);
        Due.is("weather(10)", votes.weather(10), BAD);
        Due.is("weather(-1)", votes.weather(-1), BAD);
        Due.is("weather(0)", votes.weather(0), 9);
        Due.is("now(6)", votes.now(6), 2);
    }

    private static void poll() {
        MonkeyVotes votes = Due.told("t1;m0 5 3;m1 5 0;o1 0;");
        Due.is("poll() of none", votes.poll(), 0);
        votes.gives(0);
        votes.plays(0, 0);
        Due.is("poll() of one to one", votes.poll(), 0);
        Due.is("mood behind a poll", votes.monkey(1, 2), 0);
        Due.is("nuts behind a poll", votes.monkey(0, 3), 0);
        votes.gives(0);
        Due.is("poll() of one", votes.poll(), 1);
        votes.gives(0);
        votes.weather(6);
        Due.is("poll() of one who is cold", votes.poll(), 0);
        Due.is("now(0) behind polls", votes.now(0), 6);
        Due.is("now(1)", votes.now(1), 1);
        Due.is("now(2)", votes.now(2), 3);
        Due.is("organ(0, 1) behind polls", votes.organ(0, 1), 1);
    }

    private static void undo() {
        MonkeyVotes votes = Due.told("s5;o0 0;");
        for (int i = 1; i <= 13; i++) {
            votes.plays(0, 0);
            Due.is("now(6)", votes.now(6), Math.min(10, i));
        }
        for (int i = 1; i <= 10; i++) {
            Due.is("undo()", votes.undo(), 10 - i);
            Due.is("wear behind undo()", votes.organ(0, 1), 13 - i);
        }
        Due.is("undo() of none", votes.undo(), STATE);
        Due.is("wear", votes.organ(0, 1), 3);
        votes.moves(0, 1);
        votes.moves(0, 1);
        Due.is("undo() behind new ones", votes.undo(), 1);
        votes.moves(0, 0);
        Due.is("organ(0, 0)", votes.organ(0, 0), 0);
        Due.is("undo() over an undone one", votes.undo(), 1);
        Due.is("organ(0, 0)", votes.organ(0, 0), 1);
        Due.is("undo()", votes.undo(), 0);
        Due.is("organ(0, 0)", votes.organ(0, 0), 0);
    }

    private static void undoOfEach() {
        MonkeyVotes votes = Due.told("s3;t1;m0 5 5;o0 4;");
        votes.gives(0);
        votes.plays(0, 0);
        votes.moves(0, 1);
        votes.mends(0);
        votes.weather(4);
        votes.poll();
        Due.is("undo() of poll()", votes.undo(), 5);
        Due.is("now(1)", votes.now(1), 0);
        Due.is("monkey(0, 2)", votes.monkey(0, 2), 2);
        Due.is("monkey(0, 3)", votes.monkey(0, 3), 1);
        Due.is("undo() of weather()", votes.undo(), 4);
        Due.is("now(0)", votes.now(0), 0);
        Due.is("undo() of mends()", votes.undo(), 3);
        Due.is("organ(0, 1)", votes.organ(0, 1), 5);
        Due.is("undo() of moves()", votes.undo(), 2);
        Due.is("organ(0, 0)", votes.organ(0, 0), 0);
        Due.is("undo() of plays()", votes.undo(), 1);
        Due.is("organ(0, 1)", votes.organ(0, 1), 4);
        Due.is("monkey(0, 2)", votes.monkey(0, 2), 0);
        Due.is("undo() of gives()", votes.undo(), 0);
        Due.is("monkey(0, 3)", votes.monkey(0, 3), 0);
        votes.knows(0, 0, 1);
        votes.keep(0);
        votes.type('s');
        votes.rate(0, 0);
        Due.is("undo() of what is not undone", votes.undo(), STATE);
    }
}
