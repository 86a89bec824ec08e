import java.util.Arrays;

/**
 * A kingdom of barrel organs in which the monkeys vote. The document tells its words and its
 * promises by number; the public methods stand here in the document's order.
 *
 * Every row is made once, by the constructor, and used again: no call makes an object.
 */
public final class MonkeyVotes {
    public static final int BAD = -1, STATE = -2, FULL = -3, NONE = -9;
    public static final int NO = -1000000;

    private static final int FIRST_STREETS = 3;
    private static final int FIRST_TUNES = 3;
    private static final int MOST_LETTERS = 150;
    private static final int MOST_STREETS = 5;
    private static final int MOST_TUNES = 4;
    private static final int MOST_MONKEYS = 6;
    private static final int MOST_ORGANS = 3;
    private static final int MOST_COAT = 9;
    private static final int MOST_LIKE = 3;
    private static final int MOST_WEAR = 15;
    private static final int MOST_MOOD = 99;
    private static final int MOST_NUTS = 9;
    private static final int MOST_COLD = 9;
    private static final int MOST_POLLS = 999;
    private static final int MOST_UNDONE = 10;
    private static final int MOST_PLANNED = 3;
    private static final int MOST_KNOWN = 6;
    private static final int IMAGES = 2;
    private static final int KINDS = 6;
    private static final int TENTHS = 10;
    private static final int FIRST_FAULT = -10;

    private final char[] text = new char[MOST_LETTERS];
    private int letters = 0;
    private final Land land;
    private final Reader reader;
    private final Day today;
    private final Past past;
    private final Planner planner;
    private final Briber briber;
    private final Sleepers sleepers;
    private final Likings likings;
    private final Rater rater;
    private final Day[] images = new Day[IMAGES];
    private final boolean[] kept = new boolean[IMAGES];

    public MonkeyVotes() {
        land = new Land();
        reader = new Reader();
        today = new Day(land);
        past = new Past(land);
        planner = new Planner(land);
        briber = new Briber(land);
        sleepers = new Sleepers(land);
        likings = new Likings(land);
        rater = new Rater(land, today);
        for (int image = 0; image < IMAGES; image++) {
            images[image] = new Day(land);
        }
    }

    // ---- the kingdom

    public int type(int letter) {
        if (letter < 0 || letter > 255) {
            return BAD;
        }
        if (letters >= MOST_LETTERS) {
            return FULL;
        }
        text[letters] = (char) letter;
        letters++;
        return letters;
    }

    public int clear() {
        int had = letters;
        letters = 0;
        return had;
    }

    public int kingdom() {
        int items = reader.readsAll(text, letters);
        if (items < 0) {
            return items;
        }
        letters = 0;
        land.becomes(reader.told);
        today.starts();
        past.losesAll();
        likings.known = 0;
        for (int image = 0; image < IMAGES; image++) {
            kept[image] = false;
        }
        return items;
    }

    public int monkey(int m, int what) {
        if (!land.hasMonkey(m)) {
            return NO;
        }
        switch (what) {
            case 0: return land.home[m];
            case 1: return land.coat[m];
            case 2: return today.mood[m];
            case 3: return today.nuts[m];
            case 4: return today.voteOf(m);
            default: return NO;
        }
    }

    public int like(int m, int tune) {
        if (!land.hasMonkey(m) || !land.hasTune(tune)) {
            return NO;
        }
        return land.liking[m][tune];
    }

    public int organ(int o, int what) {
        if (!land.hasOrgan(o)) {
            return BAD;
        }
        switch (what) {
            case 0: return today.place[o];
            case 1: return today.wear[o];
            default: return BAD;
        }
    }

    public int now(int what) {
        switch (what) {
            case 0: return today.cold;
            case 1: return today.carried;
            case 2: return today.lost;
            case 3: return today.votesOf(1);
            case 4: return today.votesOf(-1);
            case 5: return today.carries() ? 1 : 0;
            case 6: return past.many;
            default: return BAD;
        }
    }

    // ---- what is done

    public int plays(int o, int tune) {
        if (!land.hasOrgan(o) || !land.hasTune(tune)) {
            return BAD;
        }
        past.remembers(today);
        return today.sounds(o, tune);
    }

    public int moves(int o, int on) {
        if (!land.hasOrgan(o) || on < 0 || on > 1) {
            return BAD;
        }
        if (land.streets <= 1) {
            return STATE;
        }
        past.remembers(today);
        return on == 1 ? today.goesOn(o) : today.goesAhead(o);
    }

    public int mends(int o) {
        if (!land.hasOrgan(o)) {
            return BAD;
        }
        int worn = today.wear[o];
        if (worn == 0) {
            return STATE;
        }
        past.remembers(today);
        today.wear[o] = 0;
        return worn;
    }

    public int gives(int m) {
        if (!land.hasMonkey(m)) {
            return BAD;
        }
        if (today.nuts[m] >= MOST_NUTS) {
            return STATE;
        }
        past.remembers(today);
        today.nuts[m]++;
        return today.nuts[m];
    }

    public int weather(int n) {
        if (n < 0 || n > MOST_COLD) {
            return BAD;
        }
        int till = today.cold;
        if (till == n) {
            return STATE;
        }
        past.remembers(today);
        today.cold = n;
        return till;
    }

    public int poll() {
        past.remembers(today);
        return today.polls() ? 1 : 0;
    }

    public int undo() {
        if (past.many <= 0) {
            return STATE;
        }
        past.returnsTo(today);
        return past.many;
    }

    // ---- how to carry it

    public int plan(int k) {
        if (k < -1 || k >= MOST_PLANNED) {
            return BAD;
        }
        int many = planner.fewestTunes(today);
        if (k < 0) {
            return many;
        }
        return k < many ? planner.row[k] : NONE;
    }

    public int round(int o, int tune) {
        if (!land.hasOrgan(o) || !land.hasTune(tune)) {
            return BAD;
        }
        return planner.timesOnRound(today, o, tune);
    }

    public int bribes(int m) {
        if (m != -1 && !land.hasMonkey(m)) {
            return BAD;
        }
        int fewest = briber.fewestNuts(today);
        if (m < 0 || fewest == NONE) {
            return fewest;
        }
        return briber.given[m];
    }

    public int odds(int x, int what) {
        if (x < 0 || x > TENTHS || what < 0 || what > 1) {
            return BAD;
        }
        sleepers.weighs(today, x);
        return what == 0 ? sleepers.upper : sleepers.lower;
    }

    // ---- likings

    public int knows(int a, int b, int v) {
        if (!land.hasTune(a) || !land.hasTune(b) || v < -1 || v > 1) {
            return BAD;
        }
        if (likings.known >= MOST_KNOWN) {
            return FULL;
        }
        likings.learns(a, b, v);
        return likings.known;
    }

    public int forget() {
        int was = likings.known;
        likings.known = 0;
        return was;
    }

    public int can(int tune, int what) {
        if (!land.hasTune(tune) || what < 0 || what > 2) {
            return NO;
        }
        likings.surveys();
        if (what == 0) {
            return likings.rows;
        }
        if (likings.rows == 0) {
            return NONE;
        }
        return what == 1 ? likings.least[tune] : likings.greatest[tune];
    }

    public int next() {
        likings.surveys();
        return likings.rows <= 1 ? NONE : likings.bestToTry();
    }

    // ---- kinds, images

    public int rate(int kind, int m) {
        if (kind < 0 || kind >= KINDS || !land.hasMonkey(m)) {
            return NO;
        }
        return rater.ratesAs(kind, m);
    }

    public int keep(int image) {
        if (image < 0 || image >= IMAGES) {
            return BAD;
        }
        images[image].becomes(today);
        kept[image] = true;
        return today.cold;
    }

    public int back(int image) {
        if (image < 0 || image >= IMAGES) {
            return BAD;
        }
        if (!kept[image]) {
            return STATE;
        }
        today.becomes(images[image]);
        past.losesAll();
        return today.cold;
    }

    public int count(int what) {
        switch (what) {
            case 0: return land.streets;
            case 1: return land.tunes;
            case 2: return land.monkeys;
            case 3: return land.organs;
            case 4: return likings.known;
            case 5: return letters;
            default: return BAD;
        }
    }

    public long trace() {
        return rater.traced;
    }

    /** What a text tells, and no call but kingdom() changes. There are always a street and a tune. */
    private static final class Land {
        int streets = FIRST_STREETS;
        int tunes = FIRST_TUNES;
        int monkeys = 0;
        int organs = 0;
        final int[] home = new int[MOST_MONKEYS];
        final int[] coat = new int[MOST_MONKEYS];
        final int[][] liking = new int[MOST_MONKEYS][MOST_TUNES];
        final int[] organHome = new int[MOST_ORGANS];
        final int[] organWear = new int[MOST_ORGANS];

        boolean hasMonkey(int m) {
            return m >= 0 && m < monkeys;
        }

        boolean hasOrgan(int o) {
            return o >= 0 && o < organs;
        }

        boolean hasTune(int tune) {
            return tune >= 0 && tune < tunes;
        }

        void empties() {
            streets = FIRST_STREETS;
            tunes = FIRST_TUNES;
            monkeys = 0;
            organs = 0;
        }

        void becomes(Land other) {
            streets = other.streets;
            tunes = other.tunes;
            monkeys = other.monkeys;
            organs = other.organs;
            System.arraycopy(other.home, 0, home, 0, MOST_MONKEYS);
            System.arraycopy(other.coat, 0, coat, 0, MOST_MONKEYS);
            for (int m = 0; m < MOST_MONKEYS; m++) {
                System.arraycopy(other.liking[m], 0, liking[m], 0, MOST_TUNES);
            }
            System.arraycopy(other.organHome, 0, organHome, 0, MOST_ORGANS);
            System.arraycopy(other.organWear, 0, organWear, 0, MOST_ORGANS);
        }
    }

    /** Reads a text into a land of its own, so that a fault leaves the real one as it is. */
    private static final class Reader {
        private static final int NO_ITEM = 0;

        final Land told = new Land();
        private int item;
        private int numbers;
        private int items;
        private boolean streetsTold;
        private boolean tunesTold;

        /** How many items, or -10 less the place of the fault. */
        int readsAll(char[] text, int letters) {
            told.empties();
            item = NO_ITEM;
            items = 0;
            streetsTold = false;
            tunesTold = false;
            for (int at = 0; at < letters; at++) {
                int first = at;
                while (isDigit(text[first]) && at + 1 < letters && isDigit(text[at + 1])) {
                    at++;
                }
                if (!takes(text, first, at)) {
                    return FIRST_FAULT - first;
                }
            }
            return item == NO_ITEM ? items : FIRST_FAULT - letters;
        }

        private boolean takes(char[] text, int first, int last) {
            char letter = text[first];
            if (letter == ' ') {
                return true;
            }
            if (isDigit(letter)) {
                return takesNumber(numberOf(text, first, last));
            }
            if (letter == ';') {
                return endsItem();
            }
            return beginsItem(letter);
        }

        private static boolean isDigit(char letter) {
            return letter >= '0' && letter <= '9';
        }

        /** -1 for a number that may stand nowhere. */
        private static int numberOf(char[] text, int first, int last) {
            if (first == last) {
                return text[first] - '0';
            }
            if (last - first > 1 || text[first] == '0') {
                return -1;
            }
            return 10 * (text[first] - '0') + text[last] - '0';
        }

        private boolean beginsItem(char letter) {
            if (item != NO_ITEM || !mayBegin(letter)) {
                return false;
            }
            streetsTold = streetsTold || letter == 's';
            tunesTold = tunesTold || letter == 't';
            item = letter;
            numbers = 0;
            return true;
        }

        private boolean mayBegin(char letter) {
            boolean nobodyYet = told.monkeys == 0 && told.organs == 0;
            switch (letter) {
                case 's': return nobodyYet && !streetsTold;
                case 't': return nobodyYet && !tunesTold;
                case 'm': return told.monkeys < MOST_MONKEYS;
                case 'o': return told.organs < MOST_ORGANS;
                default: return false;
            }
        }

        private int numbersDue() {
            switch (item) {
                case 's': return 1;
                case 't': return 1;
                case 'm': return 2 + told.tunes;
                case 'o': return 2;
                default: return 0;
            }
        }

        private boolean takesNumber(int number) {
            if (numbers >= numbersDue() || number < leastDue() || number > greatestDue()) {
                return false;
            }
            switch (item) {
                case 's': told.streets = number; break;
                case 't': told.tunes = number; break;
                case 'm': tellsOfMonkey(told.monkeys, number); break;
                default: tellsOfOrgan(told.organs, number); break;
            }
            numbers++;
            return true;
        }

        private int leastDue() {
            return item == 's' || item == 't' ? 1 : 0;
        }

        private int greatestDue() {
            if (item == 's') {
                return MOST_STREETS;
            }
            if (item == 't') {
                return MOST_TUNES;
            }
            if (numbers == 0) {
                return told.streets - 1;
            }
            if (item == 'o') {
                return MOST_WEAR;
            }
            return numbers == 1 ? MOST_COAT : 2 * MOST_LIKE;
        }

        private void tellsOfMonkey(int m, int number) {
            if (numbers == 0) {
                told.home[m] = number;
            } else if (numbers == 1) {
                told.coat[m] = number;
            } else {
                told.liking[m][numbers - 2] = number - MOST_LIKE;
            }
        }

        private void tellsOfOrgan(int o, int number) {
            if (numbers == 0) {
                told.organHome[o] = number;
            } else {
                told.organWear[o] = number;
            }
        }

        private boolean endsItem() {
            if (item == NO_ITEM || numbers < numbersDue()) {
                return false;
            }
            if (item == 'm') {
                told.monkeys++;
            } else if (item == 'o') {
                told.organs++;
            }
            item = NO_ITEM;
            items++;
            return true;
        }
    }

    /** All that calls change and that is undone or kept in an image. */
    private static final class Day {
        private static final int WEAR_TO_SLIP = 4;

        private final Land land;
        final int[] mood = new int[MOST_MONKEYS];
        final int[] nuts = new int[MOST_MONKEYS];
        final int[] place = new int[MOST_ORGANS];
        final int[] wear = new int[MOST_ORGANS];
        int cold = 0;
        int carried = 0;
        int lost = 0;

        Day(Land land) {
            this.land = land;
        }

        void starts() {
            Arrays.fill(mood, 0);
            Arrays.fill(nuts, 0);
            System.arraycopy(land.organHome, 0, place, 0, MOST_ORGANS);
            System.arraycopy(land.organWear, 0, wear, 0, MOST_ORGANS);
            cold = 0;
            carried = 0;
            lost = 0;
        }

        void becomes(Day other) {
            System.arraycopy(other.mood, 0, mood, 0, MOST_MONKEYS);
            System.arraycopy(other.nuts, 0, nuts, 0, MOST_MONKEYS);
            System.arraycopy(other.place, 0, place, 0, MOST_ORGANS);
            System.arraycopy(other.wear, 0, wear, 0, MOST_ORGANS);
            cold = other.cold;
            carried = other.carried;
            lost = other.lost;
        }

        /** The organ plays the tune: the tune that is heard. */
        int sounds(int o, int tune) {
            int slipped = tune + wear[o] / WEAR_TO_SLIP;
            int heard = land.tunes > 1 ? slipped % land.tunes : 0;
            for (int m = 0; m < land.monkeys; m++) {
                if (land.home[m] == place[o]) {
                    int felt = mood[m] + land.liking[m][heard];
                    mood[m] = Math.max(-MOST_MOOD, Math.min(MOST_MOOD, felt));
                }
            }
            wear[o] = Math.min(MOST_WEAR, wear[o] + 1);
            return heard;
        }

        int goesOn(int o) {
            place[o] = place[o] + 1 < land.streets ? place[o] + 1 : 0;
            return place[o];
        }

        int goesAhead(int o) {
            place[o] = place[o] > 0 ? place[o] - 1 : land.streets - 1;
            return place[o];
        }

        int voteOf(int m) {
            return cold > land.coat[m] ? 0 : Integer.compare(mood[m] + nuts[m], 0);
        }

        int votesOf(int side) {
            int votes = 0;
            for (int m = 0; m < land.monkeys; m++) {
                if (voteOf(m) == side) {
                    votes++;
                }
            }
            return votes;
        }

        boolean carries() {
            int margin = 0;
            for (int m = 0; m < land.monkeys; m++) {
                margin += voteOf(m);
            }
            return margin > 0;
        }

        boolean polls() {
            boolean isCarried = carries();
            if (isCarried) {
                carried = Math.min(MOST_POLLS, carried + 1);
            } else {
                lost = Math.min(MOST_POLLS, lost + 1);
            }
            Arrays.fill(mood, 0);
            Arrays.fill(nuts, 0);
            return isCarried;
        }
    }

    /** The latest days, in a ring in which a new one takes the place of the oldest. */
    private static final class Past {
        private final Day[] days = new Day[MOST_UNDONE];
        private int following = 0;
        int many = 0;

        Past(Land land) {
            for (int i = 0; i < MOST_UNDONE; i++) {
                days[i] = new Day(land);
            }
        }

        void remembers(Day today) {
            days[following].becomes(today);
            following = (following + 1) % MOST_UNDONE;
            many = Math.min(MOST_UNDONE, many + 1);
        }

        void returnsTo(Day today) {
            following = (following + MOST_UNDONE - 1) % MOST_UNDONE;
            today.becomes(days[following]);
            many--;
        }

        void losesAll() {
            many = 0;
        }
    }

    /** Tries tunes on days of its own. */
    private static final class Planner {
        private final Land land;
        private final Day[] steps = new Day[MOST_PLANNED + 1];
        final int[] row = new int[MOST_PLANNED];

        Planner(Land land) {
            this.land = land;
            for (int i = 0; i <= MOST_PLANNED; i++) {
                steps[i] = new Day(land);
            }
        }

        /** How many, and row tells which; NONE. */
        int fewestTunes(Day today) {
            steps[0].becomes(today);
            for (int many = 0; many <= MOST_PLANNED; many++) {
                if (carriesBehind(0, many)) {
                    return many;
                }
            }
            return NONE;
        }

        private boolean carriesBehind(int played, int many) {
            if (played >= many || played >= MOST_PLANNED) {
                return steps[played].carries();
            }
            for (int o = 0; o < land.organs; o++) {
                for (int tune = 0; tune < land.tunes; tune++) {
                    steps[played + 1].becomes(steps[played]);
                    steps[played + 1].sounds(o, tune);
                    row[played] = 10 * o + tune;
                    if (carriesBehind(played + 1, many)) {
                        return true;
                    }
                }
            }
            return false;
        }

        int timesOnRound(Day today, int o, int tune) {
            Day trial = steps[0];
            trial.becomes(today);
            for (int times = 1; times <= land.streets; times++) {
                trial.sounds(o, tune);
                if (trial.carries()) {
                    return times;
                }
                trial.goesOn(o);
            }
            return NONE;
        }
    }

    /**
     * A way of fewest nuts gives each monkey just what turns its vote, so that it is enough to
     * look at the three votes of each.
     */
    private static final class Briber {
        private static final int NEVER = 1000;

        private final Land land;
        /** By monkey and by margin (and MOST_MONKEYS) till there: the fewest nuts from there on. */
        private final int[][] fewest = new int[MOST_MONKEYS + 1][2 * MOST_MONKEYS + 1];
        final int[] given = new int[MOST_MONKEYS];

        Briber(Land land) {
            this.land = land;
        }

        /** How many, and given tells to whom; NONE. */
        int fewestNuts(Day day) {
            for (int margin = -land.monkeys; margin <= land.monkeys; margin++) {
                fewest[land.monkeys][margin + MOST_MONKEYS] = margin > 0 ? 0 : NEVER;
            }
            for (int m = land.monkeys - 1; m >= 0; m--) {
                for (int margin = -m; margin <= m; margin++) {
                    int vote = bestVote(day, m, margin);
                    fewest[m][margin + MOST_MONKEYS] = nutsBy(day, m, margin, vote);
                }
            }
            int nuts = fewest[0][MOST_MONKEYS];
            if (nuts >= NEVER) {
                return NONE;
            }
            sharesOut(day);
            return nuts;
        }

        private void sharesOut(Day day) {
            int margin = 0;
            for (int m = 0; m < land.monkeys; m++) {
                int vote = bestVote(day, m, margin);
                given[m] = price(day, m, vote);
                margin += vote;
            }
        }

        /** Of several the lowest vote: it costs the fewest nuts. */
        private int bestVote(Day day, int m, int margin) {
            int best = day.voteOf(m);
            for (int vote = best + 1; vote <= 1; vote++) {
                if (nutsBy(day, m, margin, vote) < nutsBy(day, m, margin, best)) {
                    best = vote;
                }
            }
            return best;
        }

        private int nutsBy(Day day, int m, int margin, int vote) {
            int later = fewest[m + 1][margin + vote + MOST_MONKEYS];
            return Math.min(NEVER, price(day, m, vote) + later);
        }

        /** The nuts by which a monkey comes to a vote that is not below its own. */
        private int price(Day day, int m, int vote) {
            if (vote == day.voteOf(m)) {
                return 0;
            }
            int nuts = vote - day.mood[m] - day.nuts[m];
            boolean isCold = day.cold > land.coat[m];
            return isCold || day.nuts[m] + nuts > MOST_NUTS ? NEVER : nuts;
        }
    }

    /** The odds when some are asleep. */
    private static final class Sleepers {
        private final Land land;
        int upper = 0;
        int lower = 1;

        Sleepers(Land land) {
            this.land = land;
        }

        void weighs(Day day, int asleep) {
            upper = waysFrom(day, 0, 0, asleep);
            lower = 1;
            for (int m = 0; m < land.monkeys; m++) {
                if (day.voteOf(m) != 0) {
                    lower *= TENTHS;
                }
            }
            int common = commonDivisor(lower, upper);
            if (common > 1) {
                upper /= common;
                lower /= common;
            }
        }

        /** Of all ways in which the monkeys from m on wake and sleep those that carry it. */
        private int waysFrom(Day day, int m, int margin, int asleep) {
            if (m >= land.monkeys) {
                return margin > 0 ? 1 : 0;
            }
            int vote = day.voteOf(m);
            int without = waysFrom(day, m + 1, margin, asleep);
            if (vote == 0) {
                return without;
            }
            int with = waysFrom(day, m + 1, margin + vote, asleep);
            return asleep * without + (TENTHS - asleep) * with;
        }

        private static int commonDivisor(int a, int b) {
            int greater = a;
            int smaller = b;
            // Some thirty steps are enough for numbers up to a million.
            for (int step = 0; step < 100 && smaller > 0; step++) {
                int rest = greater % smaller;
                greater = smaller;
                smaller = rest;
            }
            return greater;
        }
    }

    /** How one may like tunes, by how it voted behind them. */
    private static final class Likings {
        private static final int DEGREES = 2 * MOST_LIKE + 1;

        private final Land land;
        private final int[] first = new int[MOST_KNOWN];
        private final int[] second = new int[MOST_KNOWN];
        private final int[] voted = new int[MOST_KNOWN];
        int known = 0;
        private final int[] row = new int[MOST_TUNES];
        int rows = 0;
        final int[] least = new int[MOST_TUNES];
        final int[] greatest = new int[MOST_TUNES];
        /** By tune and by vote (and 1): how many rows vote so behind that tune alone. */
        private final int[][] parts = new int[MOST_TUNES][3];

        Likings(Land land) {
            this.land = land;
        }

        void learns(int a, int b, int vote) {
            first[known] = a;
            second[known] = b;
            voted[known] = vote;
            known++;
        }

        void surveys() {
            rows = 0;
            int all = 1;
            for (int tune = 0; tune < land.tunes; tune++) {
                least[tune] = MOST_LIKE;
                greatest[tune] = -MOST_LIKE;
                Arrays.fill(parts[tune], 0);
                all *= DEGREES;
            }
            for (int number = 0; number < all; number++) {
                spreads(number);
                if (isAsKnown()) {
                    takesIn();
                }
            }
        }

        private void spreads(int number) {
            int rest = number;
            for (int tune = 0; tune < land.tunes; tune++) {
                row[tune] = rest % DEGREES - MOST_LIKE;
                rest /= DEGREES;
            }
        }

        private boolean isAsKnown() {
            for (int i = 0; i < known; i++) {
                if (Integer.compare(row[first[i]] + row[second[i]], 0) != voted[i]) {
                    return false;
                }
            }
            return true;
        }

        private void takesIn() {
            rows++;
            for (int tune = 0; tune < land.tunes; tune++) {
                least[tune] = Math.min(least[tune], row[tune]);
                greatest[tune] = Math.max(greatest[tune], row[tune]);
                parts[tune][Integer.compare(row[tune], 0) + 1]++;
            }
        }

        int bestToTry() {
            int best = 0;
            for (int tune = 1; tune < land.tunes; tune++) {
                if (greatestPart(tune) < greatestPart(best)) {
                    best = tune;
                }
            }
            return best;
        }

        private int greatestPart(int tune) {
            return Math.max(parts[tune][0], Math.max(parts[tune][1], parts[tune][2]));
        }
    }

    /** The kinds: each asks the one above it once, and leaves its own number in the trace. */
    private static final class Rater {
        private final Land land;
        private final Day today;
        long traced = 0;

        Rater(Land land, Day today) {
            this.land = land;
            this.today = today;
        }

        int ratesAs(int kind, int m) {
            switch (kind) {
                case 1: return cap(m);
                case 2: return flea(m);
                case 3: return jacket(m);
                case 4: return convention(m);
                case 5: return heart(m);
                default: return ape(m);
            }
        }

        private int ape(int m) {
            traced += 1;
            return land.coat[m];
        }

        private int cap(int m) {
            traced += 10;
            return ape(m) + today.mood[m];
        }

        private int flea(int m) {
            traced += 100;
            return ape(m) - today.nuts[m];
        }

        private int jacket(int m) {
            traced += 1000;
            return 2 * cap(m);
        }

        private int convention(int m) {
            traced += 10000;
            return flea(m) + m;
        }

        private int heart(int m) {
            traced += 100000;
            return ape(m) + today.cold;
        }
    }
}
