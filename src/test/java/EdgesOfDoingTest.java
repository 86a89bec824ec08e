/** The sentences of part 2 of the document that name an end: what is done, votes, polls, what is undone. */
public final class EdgesOfDoingTest {
    private static final int BAD = MonkeyVotes.BAD;
    private static final int STATE = MonkeyVotes.STATE;

    public static void main(String[] args) {
        atFirst();
        cold();
        heard();
        inItsStreet();
        moodAtMost();
        moodAtLeast();
        wearAtMost();
        moved();
        mended();
        given();
        voteInTheCold();
        voteByMoodAndNuts();
        carriedOrLost();
        countedAtMost();
        moodsAndNutsBehindAPoll();
        tenAreKnown();
        refusedOnesAreNot();
        onlyTheseAreUndone();
        undoneToTheEnd();
        Due.end();
    }

    private static void nothingIsDone(MonkeyVotes votes) {
        for (int what = 0; what <= 6; what++) {
            Due.is("now(" + what + ")", votes.now(what), 0);
        }
        for (int m = 0; m < votes.count(2); m++) {
            Due.is("mood", votes.monkey(m, 2), 0);
            Due.is("nuts", votes.monkey(m, 3), 0);
            Due.is("vote", votes.monkey(m, 4), 0);
        }
    }

    private static void atFirst() {
        Due.by("COLD is 0 at first, MOOD of each MONKEY 0, NUTS 0; nothing is CARRIED, LOST");
        nothingIsDone(new MonkeyVotes());
        nothingIsDone(Due.told("t1;" + "m0 0 6;".repeat(6) + "o0 0;".repeat(3)));
        MonkeyVotes votes = Moods.of(1, 1, -1, 1, 1);
        Moods.gives(votes, 2, 9);
        votes.poll();
        votes.poll();
        Moods.gives(votes, 3, 9);
        votes.plays(0, 0);
        votes.weather(9);
        Due.types(votes, "m0 0 3 3 3;m0 0 3 3 3;m0 0 3 3 3;m0 0 3 3 3;o2 9;");
        votes.kingdom();
        nothingIsDone(votes);
        Due.is("organ(0, 0)", votes.organ(0, 0), 2);
        Due.is("organ(0, 1)", votes.organ(0, 1), 9);
    }

    private static void cold() {
        Due.by("COLD (0 .. 9)");
        MonkeyVotes votes = new MonkeyVotes();
        for (int n = 1; n <= 9; n++) {
            Due.is("weather(" + n + ")", votes.weather(n), n - 1);
            Due.is("now(0)", votes.now(0), n);
        }
        Due.is("weather(10)", votes.weather(10), BAD);
        Due.is("now(0)", votes.now(0), 9);
        Due.is("weather(0)", votes.weather(0), 9);
        Due.is("weather(-1)", votes.weather(-1), BAD);
        Due.is("now(0)", votes.now(0), 0);
    }

    private static void heard() {
        Due.by("HEARD: number TUNE and (WEAR by 4, cut) together, modulo how many there are");
        for (int tunes = 1; tunes <= 4; tunes++) {
            for (int wear = 0; wear <= 15; wear++) {
                for (int tune = 0; tune < tunes; tune++) {
                    // The monkey likes a tune by its number, so that its mood tells what it heard.
                    String likes = " 3 4 5 6".substring(0, 2 * tunes);
                    MonkeyVotes votes = Due.told("t" + tunes + ";m1 0" + likes + ";o1 " + wear + ";");
                    int want = (tune + wear / 4) % tunes;
                    Due.is("plays(0, " + tune + ") of wear " + wear, votes.plays(0, tune), want);
                    Due.is("mood", votes.monkey(0, 2), want);
                }
            }
        }
    }

    private static void inItsStreet() {
        Due.by("PLAYED: of each MONKEY in its STREET MOOD is more");
        MonkeyVotes all = Due.told("s1;t1;m0 0 0;m0 0 1;m0 0 2;m0 0 4;m0 0 5;m0 0 6;o0 0;");
        all.plays(0, 0);
        int[] moods = {-3, -2, -1, 1, 2, 3};
        for (int m = 0; m < 6; m++) {
            Due.is("mood of " + m, all.monkey(m, 2), moods[m]);
        }
        for (int street = 0; street < 5; street++) {
            MonkeyVotes votes = Due.told("s5;t1;m0 0 6;m1 0 6;m2 0 6;m3 0 6;m4 0 6;o" + street + " 0;");
            votes.plays(0, 0);
            for (int m = 0; m < 5; m++) {
                Due.is("mood of " + m, votes.monkey(m, 2), m == street ? 3 : 0);
            }
        }
        MonkeyVotes none = Due.told("s2;t1;m0 0 6;o1 0;");
        Due.is("plays() to nobody", none.plays(0, 0), 0);
        Due.is("mood", none.monkey(0, 2), 0);
        Due.is("wear", none.organ(0, 1), 1);
        Due.is("now(6)", none.now(6), 1);
    }

    private static void moodAtMost() {
        Due.by("MOOD (99 at most)");
        MonkeyVotes votes = Moods.of(99);
        int[] tunes = {0, 2, 3, 0, 3, 2, 1, 0, 0};
        int[] moods = {99, 99, 98, 99, 98, 99, 96, 99, 99};
        for (int i = 0; i < tunes.length; i++) {
            Moods.hears(votes, tunes[i]);
            Due.is("mood behind tune " + i, votes.monkey(0, 2), moods[i]);
        }
        Moods.gives(votes, 0, 9);
        Due.is("mood with nuts", votes.monkey(0, 2), 99);
    }

    private static void moodAtLeast() {
        Due.by("MOOD (-99 .. at least)");
        MonkeyVotes votes = Moods.of(-99);
        int[] tunes = {1, 3, 2, 1, 2, 3, 0, 1, 1};
        int[] moods = {-99, -99, -98, -99, -98, -99, -96, -99, -99};
        for (int i = 0; i < tunes.length; i++) {
            Moods.hears(votes, tunes[i]);
            Due.is("mood behind tune " + i, votes.monkey(0, 2), moods[i]);
        }
    }

    private static void wearAtMost() {
        Due.by("then its WEAR is 1 more (15 at most)");
        MonkeyVotes votes = Due.told("t4;o0 0;");
        for (int i = 1; i <= 18; i++) {
            Due.is("plays(0, 0)", votes.plays(0, 0), (Math.min(i, 16) - 1) / 4);
            Due.is("organ(0, 1)", votes.organ(0, 1), Math.min(15, i));
        }
        MonkeyVotes worn = Due.told("o0 14;o0 15;");
        worn.plays(0, 0);
        worn.plays(1, 0);
        Due.is("wear of 14 and 1", worn.organ(0, 1), 15);
        Due.is("wear of 15 and 1", worn.organ(1, 1), 15);
    }

    private static void moved() {
        Due.by("moves: MOVED (on = 1: to the next STREET, 0: to the one ahead)");
        for (int streets = 2; streets <= 5; streets++) {
            for (int street = 0; street < streets; street++) {
                String text = "s" + streets + ";o" + street + " 5;o0 0;";
                MonkeyVotes on = Due.told(text);
                Due.is("moves(0, 1)", on.moves(0, 1), street == streets - 1 ? 0 : street + 1);
                Due.is("the other organ", on.organ(1, 0), 0);
                Due.is("wear", on.organ(0, 1), 5);
                MonkeyVotes ahead = Due.told(text);
                Due.is("moves(0, 0)", ahead.moves(0, 0), street == 0 ? streets - 1 : street - 1);
                Due.is("moves(0, 1) back again", ahead.moves(0, 1), street);
            }
        }
        MonkeyVotes one = Due.told("s1;o0 5;");
        Due.is("moves(0, 1) with one street", one.moves(0, 1), STATE);
        Due.is("moves(0, 0) with one street", one.moves(0, 0), STATE);
    }

    private static void mended() {
        Due.by("mends: MENDED: WEAR till then. STATE: 0");
        for (int wear = 0; wear <= 15; wear++) {
            MonkeyVotes votes = Due.told("o0 1;o0 " + wear + ";o0 2;");
            Due.is("mends(1)", votes.mends(1), wear == 0 ? STATE : wear);
            Due.is("organ(1, 1)", votes.organ(1, 1), 0);
            Due.is("organ(0, 1)", votes.organ(0, 1), 1);
            Due.is("organ(2, 1)", votes.organ(2, 1), 2);
            Due.is("mends(1) again", votes.mends(1), STATE);
            Due.is("now(6)", votes.now(6), wear == 0 ? 0 : 1);
        }
    }

    private static void given() {
        Due.by("GIVEN: a MONKEY has a NUT more (9 at most)");
        MonkeyVotes votes = Due.told("t1;" + "m0 0 3;".repeat(6));
        for (int nuts = 1; nuts <= 9; nuts++) {
            Due.is("gives(5)", votes.gives(5), nuts);
            Due.is("monkey(5, 3)", votes.monkey(5, 3), nuts);
        }
        Due.is("gives(5) of a tenth", votes.gives(5), STATE);
        Due.is("monkey(5, 3)", votes.monkey(5, 3), 9);
        Due.is("monkey(4, 3)", votes.monkey(4, 3), 0);
        votes.poll();
        Due.is("gives(5) behind a poll", votes.gives(5), 1);
    }

    private static void voteInTheCold() {
        Due.by("VOTE of a MONKEY: none (0), if COLD is more than COAT");
        for (int coat = 0; coat <= 9; coat++) {
            MonkeyVotes votes = Due.told("t1;m0 " + coat + " 3;m1 " + coat + " 0;o1 0;");
            votes.gives(0);
            votes.plays(0, 0);
            for (int cold = 0; cold <= 9; cold++) {
                votes.weather(cold);
                Due.is("vote for it", votes.monkey(0, 4), cold > coat ? 0 : 1);
                Due.is("vote against it", votes.monkey(1, 4), cold > coat ? 0 : -1);
                Due.is("now(3)", votes.now(3), cold > coat ? 0 : 1);
                Due.is("now(4)", votes.now(4), cold > coat ? 0 : 1);
            }
        }
    }

    private static void voteByMoodAndNuts() {
        Due.by("for it (1), if MOOD and NUTS together are above 0, against it (-1), if below");
        int[][] rows = {
            {-1, 0, -1}, {0, 0, 0}, {1, 0, 1}, {-1, 1, 0}, {-2, 1, -1}, {-1, 2, 1}, {0, 1, 1}, {0, 9, 1},
            {-8, 9, 1}, {-9, 9, 0}, {-10, 9, -1}, {99, 9, 1}, {-99, 9, -1}
        };
        for (int[] row : rows) {
            MonkeyVotes votes = Moods.of(row[0]);
            Moods.gives(votes, 0, row[1]);
            Due.is("vote by mood " + row[0] + ", nuts " + row[1], votes.monkey(0, 4), row[2]);
        }
    }

    private static void carriedOrLost() {
        Due.by("A POLL: CARRIED, if more are for it than against it, else LOST");
        int[][] rows = {
            {}, {0}, {1}, {-1}, {1, -1}, {1, 1, -1}, {1, -1, -1}, {1, 1, -1, -1}, {1, 1, 1, -1, -1}, {1, 1, -1, -1, -1},
            {99, -1, -1}, {1, 1, -99}, {1, 0, 0, 0, 0}, {-1, 0, 0, 0, 0}, {1, 1, 1, 1, 1}, {-1, -1, -1, -1, -1}
        };
        for (int[] moods : rows) {
            int margin = 0;
            for (int mood : moods) {
                margin += Integer.signum(mood);
            }
            MonkeyVotes votes = Moods.of(moods);
            int carries = margin > 0 ? 1 : 0;
            Due.is("now(5) by " + moods.length + " of margin " + margin, votes.now(5), carries);
            Due.is("poll()", votes.poll(), carries);
            Due.is("now(1)", votes.now(1), carries);
            Due.is("now(2)", votes.now(2), 1 - carries);
            Due.is("now(5) behind it", votes.now(5), 0);
        }
    }

    /**
     * In 512 calls nothing can be polled so often: what is answered behind them is free, but the
     * class keeps to its end all the same.
     */
    private static void countedAtMost() {
        Due.by("how often each is counted; 999 at most");
        MonkeyVotes votes = Due.told("t1;m0 0 3;");
        for (int i = 1; i <= 1001; i++) {
            votes.gives(0);
            Due.is("poll() of one for it", votes.poll(), 1);
            Due.is("now(1)", votes.now(1), Math.min(999, i));
        }
        for (int i = 1; i <= 1001; i++) {
            Due.is("poll() of none", votes.poll(), 0);
            Due.is("now(2)", votes.now(2), Math.min(999, i));
        }
        Due.is("now(1)", votes.now(1), 999);
    }

    private static void moodsAndNutsBehindAPoll() {
        Due.by("then all MOODS, NUTS are 0");
        MonkeyVotes votes = Moods.of(99, -99, 0, 5, -5);
        for (int m = 0; m < 5; m++) {
            Moods.gives(votes, m, 9 - 2 * m);
        }
        votes.moves(0, 0);
        votes.plays(0, 3);
        votes.weather(9);
        votes.poll();
        for (int m = 0; m < 5; m++) {
            Due.is("mood of " + m, votes.monkey(m, 2), 0);
            Due.is("nuts of " + m, votes.monkey(m, 3), 0);
        }
        Due.is("now(0)", votes.now(0), 9);
        Due.is("organ(0, 0)", votes.organ(0, 0), 4);
        Due.is("organ(0, 1)", votes.organ(0, 1), 1);
    }

    private static void tenAreKnown() {
        Due.by("UNDONE: 10 are known, older ones are lost");
        for (int done = 0; done <= 23; done++) {
            MonkeyVotes votes = Due.told("s5;o0 0;");
            for (int i = 1; i <= done; i++) {
                votes.moves(0, 1);
                Due.is("now(6)", votes.now(6), Math.min(10, i));
            }
            int may = Math.min(10, done);
            for (int i = 1; i <= may; i++) {
                Due.is("undo()", votes.undo(), may - i);
                Due.is("organ(0, 0)", votes.organ(0, 0), (done - i) % 5);
                Due.is("now(6)", votes.now(6), may - i);
            }
            Due.is("undo() of none", votes.undo(), STATE);
            Due.is("organ(0, 0)", votes.organ(0, 0), (done - may) % 5);
        }
    }

    private static void refusedOnesAreNot() {
        Due.by("UNDONE: the latest that was not refused");
        MonkeyVotes votes = Due.told("s1;t1;m0 0 6;o0 1;");
        votes.plays(0, 0);
        votes.mends(0);
        Moods.gives(votes, 0, 9);
        Due.is("now(6)", votes.now(6), 10);
        votes.gives(0);
        votes.mends(0);
        votes.moves(0, 1);
        votes.weather(0);
        votes.weather(10);
        votes.plays(1, 0);
        Due.is("now(6) behind what was refused", votes.now(6), 10);
        Due.is("undo()", votes.undo(), 9);
        Due.is("monkey(0, 3)", votes.monkey(0, 3), 8);
    }

    private static void onlyTheseAreUndone() {
        Due.by("UNDONE: plays(), moves(), mends(), gives(), weather(), poll()");
        MonkeyVotes votes = Due.told("s2;t1;m0 0 6;o0 3;");
        votes.knows(0, 0, 1);
        votes.forget();
        votes.knows(0, 0, 0);
        votes.keep(0);
        votes.rate(3, 0);
        votes.type('x');
        votes.clear();
        votes.type('y');
        Due.is("now(6)", votes.now(6), 0);
        String[] names = {"plays", "moves", "mends", "gives", "weather", "poll"};
        int[] numbers = {0, 0, 0, 0, 4, 0};
        for (int i = 0; i < names.length; i++) {
            Calls.answer(votes, names[i], numbers[i], 0, 0);
            Due.is("now(6) behind " + names[i], votes.now(6), i + 1);
        }
        for (int i = names.length - 1; i >= 0; i--) {
            Due.is("undo() of " + names[i], votes.undo(), i);
        }
        Due.is("count(4) behind undo()", votes.count(4), 1);
        Due.is("can(0, 0) behind undo()", votes.can(0, 0), 1);
        Due.is("count(5) behind undo()", votes.count(5), 1);
        Due.is("trace() behind undo()", votes.trace(), 1011);
        Due.is("organ(0, 1) behind undo()", votes.organ(0, 1), 3);
        votes.weather(7);
        Due.is("back(0) behind undo()", votes.back(0), 0);
    }

    private static void undoneToTheEnd() {
        Due.by("undo: UNDONE of what stood at an end");
        MonkeyVotes votes = Moods.of(99);
        votes.plays(0, 0);
        votes.undo();
        Due.is("mood 99 behind undo() of a tune more", votes.monkey(0, 2), 99);
        MonkeyVotes worn = Due.told("o0 15;");
        worn.plays(0, 0);
        worn.undo();
        Due.is("wear 15 behind undo() of a tune more", worn.organ(0, 1), 15);
        MonkeyVotes polled = Moods.of(-99, 99, 99);
        Moods.gives(polled, 0, 9);
        polled.poll();
        polled.poll();
        Due.is("undo() of what was lost", polled.undo() >= 0 ? polled.now(2) : -1, 0);
        Due.is("now(1)", polled.now(1), 1);
        polled.undo();
        Due.is("now(1) behind undo() of what was carried", polled.now(1), 0);
        Due.is("monkey(0, 2)", polled.monkey(0, 2), -99);
        Due.is("monkey(0, 3)", polled.monkey(0, 3), 9);
    }
}
