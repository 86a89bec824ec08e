/** The sentences of part 4 of the document that name an end: KINDS, THE TRACE, IMAGES; what is counted. */
public final class EdgesOfKindsTest {
    private static final int BAD = MonkeyVotes.BAD;
    private static final int NO = MonkeyVotes.NO;
    private static final int STATE = MonkeyVotes.STATE;

    public static void main(String[] args) {
        kinds();
        ratesAtTheUpperEnds();
        ratesAtTheLowerEnds();
        numberOfTheMonkey();
        traceAtFirst();
        traceOfEachOnce();
        traceIsKept();
        images();
        imagesKeepNow();
        imagesOverImages();
        nothingUndoneBehindBack();
        imagesAreGone();
        counts();
        theLastCall();
        Due.end();
    }

    private static void kinds() {
        Due.by("KINDS 0 .. 5");
        MonkeyVotes votes = Due.told("m0 4 3 3 3;m0 5 3 3 3;");
        for (int kind = 0; kind <= 5; kind++) {
            Due.is("rate(" + kind + ", 0) is taken", votes.rate(kind, 0) == NO ? 0 : 1, 1);
            Due.is("rate(" + kind + ", 1) is taken", votes.rate(kind, 1) == NO ? 0 : 1, 1);
            Due.is("rate(" + kind + ", -1)", votes.rate(kind, -1), NO);
            Due.is("rate(" + kind + ", 2)", votes.rate(kind, 2), NO);
        }
        Due.is("rate(-1, 0)", votes.rate(-1, 0), NO);
        Due.is("rate(6, 0)", votes.rate(6, 0), NO);
        Due.is("rate(0, 0) without monkeys", new MonkeyVotes().rate(0, 0), NO);
    }

    private static void ratesAre(MonkeyVotes votes, int m, int... rates) {
        for (int kind = 0; kind < rates.length; kind++) {
            Due.is("rate(" + kind + ", " + m + ")", votes.rate(kind, m), rates[kind]);
        }
    }

    private static void ratesAtTheUpperEnds() {
        Due.by("RATE, where COAT is 9, MOOD 99, COLD 9");
        MonkeyVotes votes = Moods.of(99);
        votes.weather(9);
        ratesAre(votes, 0, 9, 108, 9, 216, 9, 18);
        Moods.gives(votes, 0, 9);
        ratesAre(votes, 0, 9, 108, 0, 216, 0, 18);
    }

    private static void ratesAtTheLowerEnds() {
        Due.by("RATE, where COAT is 0, MOOD -99, NUTS 9");
        MonkeyVotes votes = Due.told("t1;m0 0 0;o0 0;");
        ratesAre(votes, 0, 0, 0, 0, 0, 0, 0);
        for (int i = 0; i < 33; i++) {
            votes.plays(0, 0);
        }
        Moods.gives(votes, 0, 9);
        ratesAre(votes, 0, 0, -99, -9, -198, -9, 0);
        votes.weather(9);
        ratesAre(votes, 0, 0, -99, -9, -198, -9, 9);
    }

    private static void numberOfTheMonkey() {
        Due.by("CONVENTION up, and its number");
        MonkeyVotes votes = Due.told("t1;" + "m0 7 3;".repeat(6));
        for (int m = 0; m < 6; m++) {
            Due.is("rate(4, " + m + ")", votes.rate(4, m), 7 + m);
            votes.gives(m);
            Due.is("rate(4, " + m + ") with a nut", votes.rate(4, m), 6 + m);
        }
    }

    private static void traceAtFirst() {
        Due.by("THE TRACE, 0 at first");
        Due.is("trace()", new MonkeyVotes().trace(), 0);
        MonkeyVotes votes = Scenes.scene(1);
        Due.is("trace() of a kingdom", votes.trace(), 0);
        votes.rate(-1, 0);
        votes.rate(6, 0);
        votes.rate(0, 1);
        votes.rate(0, -1);
        Due.is("trace() behind what was refused", votes.trace(), 0);
    }

    private static void traceOfEachOnce() {
        Due.by("numbers are added to THE TRACE as often as rate() asks that body: each once");
        int[] traces = {1, 11, 101, 1011, 10101, 100001};
        for (int kind = 0; kind <= 5; kind++) {
            MonkeyVotes votes = Due.told("m0 7 3 3 3;");
            for (int times = 1; times <= 400; times++) {
                votes.rate(kind, 0);
            }
            Due.is("trace() of kind " + kind, votes.trace(), 400L * traces[kind]);
        }
    }

    private static void traceIsKept() {
        Due.by("THE TRACE is none of what is undone, kept or read anew");
        MonkeyVotes votes = Scenes.scene(1);
        votes.keep(0);
        votes.plays(0, 0);
        votes.rate(0, 0);
        votes.undo();
        Due.is("trace() behind undo()", votes.trace(), 1);
        votes.back(0);
        Due.is("trace() behind back()", votes.trace(), 1);
        votes.kingdom();
        Due.is("trace() behind kingdom()", votes.trace(), 1);
    }

    private static void images() {
        Due.by("IMAGES 0, 1");
        for (int which = 0; which < 2; which++) {
            MonkeyVotes votes = Scenes.scene(which);
            Due.is("keep(-1)", votes.keep(-1), BAD);
            Due.is("keep(2)", votes.keep(2), BAD);
            for (int image = 0; image <= 1; image++) {
                Due.is("back() of none kept", votes.back(image), STATE);
            }
            Due.is("keep(1)", votes.keep(1), 0);
            Due.is("back(0) of none kept", votes.back(0), STATE);
            Due.is("back(1)", votes.back(1), 0);
            Due.is("keep(0)", votes.keep(0), 0);
            Due.is("back(0)", votes.back(0), 0);
            Due.is("back(0) once more", votes.back(0), 0);
            Due.is("back(-1)", votes.back(-1), BAD);
            Due.is("back(2)", votes.back(2), BAD);
        }
    }

    private static void imagesKeepNow() {
        Due.by("IMAGES keep NOW (MOODS, NUTS, where ORGANS are, WEAR, COLD, what was CARRIED, LOST)");
        MonkeyVotes votes = Moods.of(99, -99, 0, 1, -1);
        votes.poll();
        Moods.gives(votes, 4, 9);
        votes.poll();
        votes.poll();
        Moods.gives(votes, 4, 9);
        votes.moves(0, 0);
        votes.plays(0, 1);
        votes.weather(9);
        Due.is("keep(0)", votes.keep(0), 9);
        votes.poll();
        votes.weather(3);
        votes.mends(0);
        votes.moves(0, 1);
        votes.gives(0);
        votes.plays(0, 0);
        Due.is("back(0)", votes.back(0), 9);
        int[] got = {
            votes.monkey(0, 2), votes.monkey(0, 3), votes.monkey(4, 2), votes.monkey(4, 3), votes.organ(0, 0),
            votes.organ(0, 1), votes.now(0), votes.now(1), votes.now(2)
        };
        int[] want = {0, 0, -3, 9, 4, 1, 9, 1, 2};
        for (int i = 0; i < want.length; i++) {
            Due.is("part " + i, got[i], want[i]);
        }
    }

    private static void imagesOverImages() {
        Due.by("keep: An IMAGE is kept: COLD");
        MonkeyVotes votes = new MonkeyVotes();
        for (int cold = 1; cold <= 9; cold++) {
            votes.weather(cold);
            Due.is("keep()", votes.keep(cold % 2), cold);
        }
        Due.is("back(0)", votes.back(0), 8);
        Due.is("back(1)", votes.back(1), 9);
        Due.is("now(0)", votes.now(0), 9);
        votes.weather(0);
        Due.is("back(1) of an image that stays", votes.back(1), 9);
    }

    private static void nothingUndoneBehindBack() {
        Due.by("nothing can be UNDONE behind back()");
        MonkeyVotes votes = Scenes.scene(3);
        Due.is("now(6)", votes.now(6), 10);
        votes.back(2);
        votes.keep(2);
        Due.is("now(6) behind what was refused", votes.now(6), 10);
        votes.keep(1);
        Due.is("now(6) behind keep()", votes.now(6), 10);
        votes.back(1);
        Due.is("now(6) behind back()", votes.now(6), 0);
        Due.is("undo() behind back()", votes.undo(), STATE);
        for (int i = 1; i <= 11; i++) {
            votes.plays(0, 0);
            Due.is("now(6)", votes.now(6), Math.min(10, i));
        }
    }

    private static void imagesAreGone() {
        Due.by("Read anew: as told, IMAGES are gone");
        MonkeyVotes votes = Scenes.scene(3);
        votes.clear();
        Due.types(votes, "s0;");
        votes.kingdom();
        Due.is("back(0) behind a fault", votes.back(0), 0);
        Due.is("back(1) behind a fault", votes.back(1), 9);
        votes.clear();
        Due.is("kingdom()", votes.kingdom(), 0);
        Due.is("back(0)", votes.back(0), STATE);
        Due.is("back(1)", votes.back(1), STATE);
        Due.is("keep(0)", votes.keep(0), 0);
        Due.is("back(0) of a new image", votes.back(0), 0);
    }

    private static void counts() {
        Due.by("count: 0 STREETS, 1 TUNES, 2 MONKEYS, 3 ORGANS, 4 KNOWN, 5 letters of THE TEXT. BAD");
        int[][] wants = {{3, 3, 0, 0, 0, 0}, {1, 1, 1, 1, 0, 0}, {3, 3, 2, 2, 1, 12}, {5, 4, 6, 3, 6, 3}, {1, 2, 1, 1, 1, 150}};
        for (int which = 0; which < Scenes.MANY; which++) {
            MonkeyVotes votes = Scenes.scene(which);
            for (int what = 0; what <= 5; what++) {
                Due.is("scene " + which + ": count(" + what + ")", votes.count(what), wants[which][what]);
            }
            Due.is("count(-1)", votes.count(-1), BAD);
            Due.is("count(6)", votes.count(6), BAD);
        }
    }

    private static void theLastCall() {
        Due.by("An object is used for at most 512 calls");
        String text = "m0 7 3 3 3;";
        MonkeyVotes votes = Due.told(text);
        int called = text.length() + 1;
        for (int call = called; call < 511; call++) {
            votes.rate(5, 0);
        }
        Due.is("trace() as the 512th call", votes.trace(), (511L - called) * 100001);
    }
}
