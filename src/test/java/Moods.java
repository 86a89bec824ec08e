/** Kingdoms whose monkeys are of told moods. */
final class Moods {
    private Moods() {
    }

    /**
     * Monkeys of these moods (5 at most), each in the street of its number; they like the tunes by
     * 3, -3, 1, -1. One organ that does not wear stands in street 0. The coats are 9.
     */
    static MonkeyVotes of(int... moods) {
        StringBuilder text = new StringBuilder("s5;t4;");
        for (int m = 0; m < moods.length; m++) {
            text.append('m').append(m).append(" 9 6 0 4 2;");
        }
        MonkeyVotes votes = Due.told(text.append("o0 0;").toString());
        for (int m = 0; m < moods.length; m++) {
            brings(votes, m, moods[m]);
            votes.moves(0, 1);
        }
        for (int i = 0; i < 5 && votes.organ(0, 0) != 0; i++) {
            votes.moves(0, 1);
        }
        return votes;
    }

    /** The organ in the monkey's street plays until it is of the mood. */
    static void brings(MonkeyVotes votes, int m, int mood) {
        for (int i = 0; i < 100 && votes.monkey(m, 2) != mood; i++) {
            int missing = mood - votes.monkey(m, 2);
            hears(votes, missing >= 3 ? 0 : missing <= -3 ? 1 : missing > 0 ? 2 : 3);
        }
        votes.mends(0);
        Due.is("mood for a test", votes.monkey(m, 2), mood);
    }

    /** Organ 0 plays the tune, mended ahead of it. */
    static void hears(MonkeyVotes votes, int tune) {
        votes.mends(0);
        votes.plays(0, tune);
    }

    static void gives(MonkeyVotes votes, int m, int nuts) {
        for (int i = 0; i < nuts; i++) {
            votes.gives(m);
        }
    }
}
