/** Objects in the states at whose edges calls are refused. */
final class Scenes {
    static final int MANY = 5;

    private Scenes() {
    }

    static MonkeyVotes scene(int which) {
        switch (which) {
            case 0: return new MonkeyVotes();
            case 1: return least();
            case 2: return some();
            case 3: return full();
            case 4: return fullText();
            default: throw new IllegalArgumentException("scene " + which);
        }
    }

    /** One of each, nothing done. */
    private static MonkeyVotes least() {
        return Due.told("s1;t1;m0 0 0;o0 0;");
    }

    /** Some of each, some of it done, known and kept; a text that ends too early. */
    private static MonkeyVotes some() {
        MonkeyVotes votes = Due.told("m0 4 6 0 3;m2 5 2 2 5;o2 7;o0 0;");
        votes.plays(0, 2);
        votes.gives(0);
        votes.poll();
        votes.keep(1);
        votes.moves(0, 1);
        votes.plays(0, 1);
        votes.weather(5);
        votes.undo();
        votes.knows(0, 2, 1);
        votes.rate(4, 1);
        Due.types(votes, "s2;t2;m1 4 0");
        return votes;
    }

    /** As many of each as there may be, everything at its upper end. */
    private static MonkeyVotes full() {
        MonkeyVotes votes = Due.told("s5;t4;m0 9 6 5 4 3;m1 8 0 1 2 3;m2 7 3 3 6 0;m3 6 1 6 1 6;"
            + "m4 5 4 2 4 2;m4 0 2 2 2 2;o0 15;o4 15;o2 15;");
        votes.poll();
        votes.keep(0);
        votes.weather(9);
        for (int nuts = 1; nuts <= 9; nuts++) {
            votes.gives(5);
        }
        votes.plays(2, 3);
        votes.keep(1);
        votes.moves(1, 1);
        for (int i = 0; i < 6; i++) {
            votes.knows(3, i % 4, i < 4 ? 1 : 0);
        }
        votes.rate(5, 5);
        Due.types(votes, "s1;");
        return votes;
    }

    /** As many letters as there may be. */
    private static MonkeyVotes fullText() {
        MonkeyVotes votes = Due.told("s1;t2;m0 3 4 5;o0 3;");
        votes.plays(0, 1);
        votes.knows(1, 1, 1);
        Due.types(votes, "s5;t4;o4 15;" + " ".repeat(137) + "m");
        return votes;
    }
}
