/** The sentences of part 1 of the document that name an end: streets, tunes, monkeys, organs, the text. */
public final class EdgesOfTextTest {
    private static final int NO = MonkeyVotes.NO;
    private static final int BAD = MonkeyVotes.BAD;
    private static final int FULL = MonkeyVotes.FULL;
    private static final String LONGEST =
        "s5;t4;m0 9 6 5 4 3;m1 8 0 1 2 3;m2 7 3 3 6 0;m3 6 1 6 1 6;m4 5 4 2 4 2;m4 0 2 2 2 2;o0 4;o4 15;o2 13;";

    public static void main(String[] args) {
        streets();
        streetsAtFirst();
        ring();
        tunes();
        tunesAtFirst();
        monkeys();
        coats();
        likes();
        asManyLikesAsTunes();
        organs();
        wear();
        lettersAtMost();
        blanks();
        aheadOfAll();
        onceAtMost();
        seventhAndFourth();
        numbersTooManyOrTooFew();
        numbersAbove99OrWithNought();
        otherLetters();
        otherLettersWithin();
        endsTooEarly();
        firstOfSeveral();
        clears();
        emptyText();
        Due.end();
    }

    private static void streets() {
        Due.by("STREETS 0 .. as many as are told less 1 (1 .. 5)");
        Due.fault("s0;", 1);
        Due.fault("s6;", 1);
        for (int n = 1; n <= 5; n++) {
            String head = "s" + n + ";";
            MonkeyVotes votes = Due.told(head + "m" + (n - 1) + " 0 3 3 3;o" + (n - 1) + " 0;m0 0 3 3 3;o0 0;");
            Due.is("count(0)", votes.count(0), n);
            Due.is("monkey(0, 0) in the last street", votes.monkey(0, 0), n - 1);
            Due.is("organ(0, 0) in the last street", votes.organ(0, 0), n - 1);
            Due.is("monkey(1, 0) in the first street", votes.monkey(1, 0), 0);
            Due.is("organ(1, 0) in the first street", votes.organ(1, 0), 0);
            Due.fault(head + "m" + n + " 0 3 3 3;", 4);
            Due.fault(head + "o" + n + " 0;", 4);
        }
    }

    private static void streetsAtFirst() {
        Due.by("STREETS: 3 at first");
        Due.is("count(0)", new MonkeyVotes().count(0), 3);
        Due.items("m2 0 3 3 3;o2 0;", 2);
        Due.fault("m3 0 3 3 3;", 1);
        Due.fault("o3 0;", 1);
        MonkeyVotes votes = Due.told("s5;");
        Due.types(votes, "t1;");
        Due.is("kingdom() without s", votes.kingdom(), 1);
        Due.is("count(0) behind it", votes.count(0), 3);
    }

    private static void ring() {
        Due.by("STREETS lie in a ring (behind the last one the first)");
        for (int n = 2; n <= 5; n++) {
            MonkeyVotes votes = Due.told("s" + n + ";t1;m0 9 6;m" + (n - 1) + " 9 0;o" + (n - 1) + " 0;o0 0;");
            Due.is("moves(0, 1) from the last street", votes.moves(0, 1), 0);
            Due.is("moves(0, 0) from the first street", votes.moves(0, 0), n - 1);
            for (int i = 0; i < n; i++) {
                Due.is("moves(1, 1) all around", votes.moves(1, 1), (i + 1) % n);
            }
            for (int i = 0; i < n; i++) {
                Due.is("moves(1, 0) all around", votes.moves(1, 0), n - 1 - i);
            }
            votes.moves(0, 1);
            votes.plays(0, 0);
            Due.is("mood in the first street", votes.monkey(0, 2), 3);
            Due.is("mood in the last street", votes.monkey(1, 2), 0);
        }
    }

    private static void tunes() {
        Due.by("TUNES 0 .. as many as are told less 1 (1 .. 4)");
        Due.fault("t0;", 1);
        Due.fault("t5;", 1);
        for (int n = 1; n <= 4; n++) {
            MonkeyVotes votes = Due.told("t" + n + ";m0 9" + " 4".repeat(n) + ";o0 0;");
            int last = n - 1;
            Due.is("count(1)", votes.count(1), n);
            Due.is("like(0, last)", votes.like(0, last), 1);
            Due.is("like(0, last and 1)", votes.like(0, n), NO);
            Due.is("round(0, last)", votes.round(0, last), 1);
            Due.is("round(0, last and 1)", votes.round(0, n), BAD);
            Due.is("can(last, 2)", votes.can(last, 2), 3);
            Due.is("can(last and 1, 2)", votes.can(n, 2), NO);
            Due.is("knows(last, last, 1)", votes.knows(last, last, 1), 1);
            Due.is("knows(last and 1, 0, 1)", votes.knows(n, 0, 1), BAD);
            Due.is("knows(0, last and 1, 1)", votes.knows(0, n, 1), BAD);
            Due.is("plays(0, last)", votes.plays(0, last), last);
            Due.is("plays(0, last and 1)", votes.plays(0, n), BAD);
        }
    }

    private static void tunesAtFirst() {
        Due.by("TUNES: 3 at first");
        MonkeyVotes fresh = new MonkeyVotes();
        Due.is("count(1)", fresh.count(1), 3);
        Due.is("can(2, 0)", fresh.can(2, 0), 343);
        Due.is("can(3, 0)", fresh.can(3, 0), NO);
        Due.items("m0 0 3 3 3;", 1);
        Due.fault("m0 0 3 3;", 8);
        Due.fault("m0 0 3 3 3 3;", 11);
        MonkeyVotes votes = Due.told("t4;");
        Due.types(votes, "s1;");
        Due.is("kingdom() without t", votes.kingdom(), 1);
        Due.is("count(1) behind it", votes.count(1), 3);
    }

    private static void monkeys() {
        Due.by("MONKEYS 0 .. (6 at most)");
        for (int n = 0; n <= 6; n++) {
            StringBuilder text = new StringBuilder("t1;");
            for (int m = 0; m < n; m++) {
                text.append("m0 ").append(m + 3).append(" 3;");
            }
            MonkeyVotes votes = Due.told(text.toString());
            Due.is("count(2)", votes.count(2), n);
            for (int m = 0; m < n; m++) {
                Due.is("monkey(" + m + ", 1)", votes.monkey(m, 1), m + 3);
            }
            Due.is("monkey(" + n + ", 1) of " + n, votes.monkey(n, 1), NO);
            Due.is("monkey(-1, 1) of " + n, votes.monkey(-1, 1), NO);
        }
        Due.fault("t1;" + "m0 0 3;".repeat(7), 3 + 6 * 7);
    }

    private static void coats() {
        Due.by("COAT (0 .. 9)");
        for (int coat = 0; coat <= 9; coat++) {
            Due.is("monkey(0, 1)", Due.told("m0 " + coat + " 3 3 3;").monkey(0, 1), coat);
        }
        Due.fault("m0 10 3 3 3;", 3);
        Due.fault("m0 -1 3 3 3;", 3);
        Due.fault("m0 99 3 3 3;", 3);
    }

    private static void likes() {
        Due.by("LIKE of each TUNE (-3 .. 3; told as LIKE and 3: 0 .. 6)");
        for (int tunes = 1; tunes <= 4; tunes++) {
            for (int tune = 0; tune < tunes; tune++) {
                String ahead = "t" + tunes + ";m0 0" + " 3".repeat(tune) + " ";
                String behind = " 3".repeat(tunes - tune - 1) + ";";
                for (int told = 0; told <= 6; told++) {
                    MonkeyVotes votes = Due.told(ahead + told + behind);
                    Due.is("like(0, " + tune + ")", votes.like(0, tune), told - 3);
                }
                Due.fault(ahead + 7 + behind, ahead.length());
                Due.fault(ahead + "-1" + behind, ahead.length());
            }
        }
    }

    private static void asManyLikesAsTunes() {
        Due.by("as many numbers as there are TUNES");
        for (int tunes = 1; tunes <= 4; tunes++) {
            String ahead = "t" + tunes + ";m0 0";
            Due.items(ahead + " 3".repeat(tunes) + ";", 2);
            String fewer = ahead + " 3".repeat(tunes - 1);
            Due.fault(fewer + ";", fewer.length());
            Due.fault(ahead + ";", ahead.length());
            String asMany = ahead + " 3".repeat(tunes);
            Due.fault(asMany + " 3;", asMany.length() + 1);
        }
    }

    private static void organs() {
        Due.by("ORGANS 0 .. (3 at most)");
        for (int n = 0; n <= 3; n++) {
            StringBuilder text = new StringBuilder();
            for (int o = 0; o < n; o++) {
                text.append("o0 ").append(o + 7).append(";");
            }
            MonkeyVotes votes = Due.told(text.toString());
            Due.is("count(3)", votes.count(3), n);
            for (int o = 0; o < n; o++) {
                Due.is("organ(" + o + ", 1)", votes.organ(o, 1), o + 7);
            }
            Due.is("organ(" + n + ", 1) of " + n, votes.organ(n, 1), BAD);
            Due.is("organ(-1, 1) of " + n, votes.organ(-1, 1), BAD);
        }
        Due.fault("o0 0;".repeat(4), 15);
    }

    private static void wear() {
        Due.by("WEAR (0 .. 15)");
        for (int wear = 0; wear <= 15; wear++) {
            Due.is("organ(0, 1)", Due.told("o0 " + wear + ";").organ(0, 1), wear);
        }
        Due.fault("o0 16;", 3);
        Due.fault("o0 -1;", 3);
        Due.fault("o0 99;", 3);
    }

    private static void lettersAtMost() {
        Due.by("They are a text (150 letters at most)");
        Due.items(LONGEST + " ".repeat(150 - LONGEST.length()), 11);
        Due.items("s4" + " ".repeat(147) + ";", 1);
        Due.fault(" ".repeat(149) + "x", 149);
        Due.fault(" ".repeat(149) + "s", 150);
        MonkeyVotes votes = new MonkeyVotes();
        Due.types(votes, "s4" + " ".repeat(148));
        Due.is("type(';') behind 150 letters", votes.type(';'), FULL);
        Due.is("kingdom() without that letter", votes.kingdom(), -10 - 150);
        Due.is("clear()", votes.clear(), 150);
        for (int i = 1; i <= 150; i++) {
            Due.is("type(32)", votes.type(32), i);
        }
        Due.is("kingdom() of 150 blanks", votes.kingdom(), 0);
        Due.is("type(32) behind kingdom()", votes.type(32), 1);
    }

    private static void blanks() {
        Due.by("blanks (32) between TOKENS");
        Due.items("s5;t4;m4 9 6 6 6 6;o4 15;", 4);
        Due.items("   s   5   ;   t   4   ;   m   4   9   6   6   6   6   ;   o   4   15   ;   ", 4);
        // Without one two numbers are a number, so that one has a 0 ahead, or there is one too few.
        Due.fault("m00 3 3 3;", 1);
        Due.fault("o1 1 5;", 5);
        Due.fault("o115;", 1);
        Due.fault("s1 0;", 3);
        for (char letter : new char[] {0, 9, 10, 13, 31, 33, 160}) {
            Due.fault("s3" + letter + ";", 2);
            Due.fault(letter + "s3;", 0);
            Due.fault("s3;" + letter, 3);
        }
    }

    private static void aheadOfAll() {
        Due.by("s N, t N (both ahead of all MONKEYS, ORGANS); s, t behind a m, o");
        Due.items("s3;t3;m0 0 3 3 3;", 3);
        Due.items("t3;s3;o0 0;", 3);
        Due.fault("m0 0 3 3 3;s3;", 11);
        Due.fault("m0 0 3 3 3;t3;", 11);
        Due.fault("o0 0;s3;", 5);
        Due.fault("o0 0;t3;", 5);
        Due.fault("s3;o0 0;t3;", 8);
        Due.fault("t3;m0 0 3 3 3;s3;", 14);
        Due.fault("o0 0;m0 0 3 3 3;t3;", 16);
    }

    private static void onceAtMost() {
        Due.by("s N, t N (once at most each), or again");
        Due.items("s3;", 1);
        Due.items("t3;", 1);
        Due.fault("s3;s3;", 3);
        Due.fault("t3;t3;", 3);
        Due.fault("s3;t3;s4;", 6);
        Due.fault("t3;s3;t4;", 6);
    }

    private static void seventhAndFourth() {
        Due.by("a seventh m, a fourth o");
        String six = "t1;" + "m0 0 3;".repeat(6);
        String three = "o0 0;".repeat(3);
        Due.items(six + three, 10);
        Due.items("t1;" + three + "m0 0 3;".repeat(6), 10);
        Due.fault(six + three + "m0 0 3;", six.length() + three.length());
        Due.fault(six + three + "o0 0;", six.length() + three.length());
        Due.fault(six + "   m", six.length() + 3);
        Due.fault(three + "   o", three.length() + 3);
        // A text has monkeys and organs of its own, not those of the one ahead of it.
        MonkeyVotes votes = Due.told(six + three);
        Due.types(votes, six + three);
        Due.is("kingdom() of as many again", votes.kingdom(), 10);
        Due.is("count(2)", votes.count(2), 6);
        Due.is("count(3)", votes.count(3), 3);
    }

    private static void numbersTooManyOrTooFew() {
        Due.by("a NUMBER beyond what it may be, one too many or too few, too");
        Due.fault("s;", 1);
        Due.fault("s 1 1;", 4);
        Due.fault("t;", 1);
        Due.fault("t 1 1;", 4);
        Due.fault("o;", 1);
        Due.fault("o0;", 2);
        Due.fault("o0 0 0;", 5);
        Due.fault("m;", 1);
        Due.fault("m0;", 2);
        Due.fault("m0 0;", 4);
        Due.fault("0", 0);
        Due.fault("s1;1;", 3);
        for (char head : "stmo".toCharArray()) {
            for (char next : "stmo".toCharArray()) {
                Due.fault("" + head + next, 1);
                Due.fault(head + "1" + next, 2);
            }
        }
    }

    private static void numbersAbove99OrWithNought() {
        Due.by("a NUMBER above 99 or with a 0 ahead of others, that TOKEN's");
        String[] numbers = {"99", "100", "999", "4294967297", "18446744073709551617", "00", "01", "010", "000"};
        for (String number : numbers) {
            Due.fault("s" + number + ";", 1);
            Due.fault("t " + number + ";", 2);
            Due.fault("o0 " + number + ";", 3);
            Due.fault("m0 0 3 3 " + number + ";", 9);
            Due.fault("o0 0 " + number + ";", 5);
            Due.fault(number, 0);
        }
        Due.items("o0 0;o0 10;o0 15;", 3);
        Due.fault("s" + "1".repeat(149), 1);
        Due.fault("s" + "0".repeat(149), 1);
    }

    private static void otherLetters() {
        Due.by("of any other letter, that TOKEN's");
        for (int letter = 0; letter <= 255; letter++) {
            char c = (char) letter;
            boolean isHead = "stmo".indexOf(c) >= 0;
            answers("" + c, c == ' ' ? 0 : isHead ? -11 : -10);
            answers("s3;" + c, c == ' ' ? 1 : isHead && c != 's' ? -14 : -13);
        }
    }

    private static void otherLettersWithin() {
        Due.by("of any other letter, that TOKEN's, within an item");
        for (int letter = 0; letter <= 255; letter++) {
            char c = (char) letter;
            boolean isDigit = c >= '0' && c <= '9';
            answers("s" + c, c == ' ' || c >= '1' && c <= '5' ? -12 : -11);
            answers("s3" + c, c == ';' ? 1 : c == ' ' ? -13 : isDigit ? -11 : -12);
            answers("o0 1" + c, c == ';' ? 1 : c == ' ' || c >= '0' && c <= '5' ? -15 : isDigit ? -13 : -14);
        }
    }

    private static void answers(String text, int want) {
        MonkeyVotes votes = new MonkeyVotes();
        Due.types(votes, text);
        String call = "kingdom() of \"" + text + "\" (at its end " + (int) text.charAt(text.length() - 1) + ")";
        Due.is(call, votes.kingdom(), want);
    }

    private static void endsTooEarly() {
        Due.by("the text's length, if it ends too early");
        int items = 0;
        for (int length = 0; length <= LONGEST.length(); length++) {
            String part = LONGEST.substring(0, length);
            boolean isWhole = part.isEmpty() || part.endsWith(";");
            if (part.endsWith(";")) {
                items++;
            }
            if (isWhole) {
                Due.items(part, items);
                Due.items(part + "  ", items);
            } else {
                Due.fault(part, length);
                Due.fault(part + "  ", length + 2);
            }
        }
    }

    private static void firstOfSeveral() {
        Due.by("FAULT: the place of the first letter of the first TOKEN that can't stand there");
        Due.fault("s6 x", 1);
        Due.fault("x s6", 0);
        Due.fault("s3;s3;x", 3);
        Due.fault("s3;x;s3;", 3);
        Due.fault("s 100 s", 2);
        Due.fault("s s 100", 2);
        Due.fault("o0 16", 3);
        Due.fault("   s   0   ", 7);
    }

    private static void clears() {
        Due.by("clear: THE TEXT is empty: how many letters it had");
        MonkeyVotes votes = new MonkeyVotes();
        Due.is("clear() of an empty text", votes.clear(), 0);
        votes.type('x');
        Due.is("clear() of one letter", votes.clear(), 1);
        Due.is("clear() again", votes.clear(), 0);
        Due.types(votes, "x".repeat(150));
        Due.is("clear() of a full text", votes.clear(), 150);
        Due.types(votes, "s5;");
        Due.is("kingdom() behind clear()", votes.kingdom(), 1);
        Due.is("clear() behind kingdom()", votes.clear(), 0);
        Due.is("count(0) behind clear()", votes.count(0), 5);
    }

    private static void emptyText() {
        Due.by("THE TEXT tells all anew, and is empty then: how many ITEMS");
        MonkeyVotes votes = Due.told(LONGEST);
        Due.is("count(5) behind kingdom()", votes.count(5), 0);
        Due.is("kingdom() of an empty text", votes.kingdom(), 0);
        int[] counts = {3, 3, 0, 0, 0, 0};
        for (int what = 0; what < counts.length; what++) {
            Due.is("count(" + what + ") behind it", votes.count(what), counts[what]);
        }
    }
}
