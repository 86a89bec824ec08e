/** Counts and prints the answers that are not the ones that are due. */
final class Due {
    private static int wrong = 0;

    private Due() {
    }

    static void is(String call, long got, long want) {
        if (got != want) {
            wrong++;
            System.out.println(call + " answered " + got + ", due is " + want);
        }
    }

    /** Ends the program with exit code 1 if an answer was wrong. */
    static void end() {
        System.out.println(wrong == 0 ? "all answers are as due" : wrong + " answers are not as due");
        if (wrong != 0) {
            System.exit(1);
        }
    }

    static void types(MonkeyVotes votes, String text) {
        for (int i = 0; i < text.length(); i++) {
            votes.type(text.charAt(i));
        }
    }

    /** A new object that has read the text. */
    static MonkeyVotes told(String text) {
        MonkeyVotes votes = new MonkeyVotes();
        types(votes, text);
        int answer = votes.kingdom();
        if (answer < 0) {
            is("kingdom() of \"" + text + "\" for a test", answer, 0);
        }
        return votes;
    }

    /** A new object finds the fault of the text at the place, and the text stays. */
    static void fault(String text, int place) {
        MonkeyVotes votes = new MonkeyVotes();
        types(votes, text);
        is("kingdom() of \"" + text + "\"", votes.kingdom(), -10 - place);
        is("letters behind the fault of \"" + text + "\"", votes.count(5), text.length());
    }

    static void items(String text, int many) {
        MonkeyVotes votes = new MonkeyVotes();
        types(votes, text);
        is("kingdom() of \"" + text + "\"", votes.kingdom(), many);
        is("letters behind kingdom() of \"" + text + "\"", votes.count(5), 0);
    }
}
