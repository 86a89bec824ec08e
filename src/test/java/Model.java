import java.math.BigInteger;
import java.util.ArrayDeque;
import java.util.ArrayList;
import java.util.Deque;
import java.util.List;
import java.util.regex.Matcher;
import java.util.regex.Pattern;

/**
 * The document once more, written another way: every question is answered by going through all
 * that could be. It takes the calls by name, for AgainstModelTest.
 */
final class Model {
    private static final int BAD = -1, STATE = -2, FULL = -3, NONE = -9, NO = -1000000;
    private static final int[] ABOVE = {-1, 0, 0, 1, 2, 0};
    private static final int[] NUMBERS = {1, 10, 100, 1000, 10000, 100000};

    /** What changes. */
    private static final class State {
        int[] mood = new int[6], nuts = new int[6], place = new int[3], wear = new int[3];
        int cold, carried, lost;

        State copy() {
            State s = new State();
            s.mood = mood.clone();
            s.nuts = nuts.clone();
            s.place = place.clone();
            s.wear = wear.clone();
            s.cold = cold;
            s.carried = carried;
            s.lost = lost;
            return s;
        }
    }

    private String text = "";
    private int streets = 3, tunes = 3;
    private List<int[]> monkeys = new ArrayList<>(), organs = new ArrayList<>();
    private State now = new State();
    private final Deque<State> past = new ArrayDeque<>();
    private final State[] images = new State[2];
    private final List<int[]> known = new ArrayList<>();
    private long trace;

    long call(String name, int a, int b, int c) {
        switch (name) {
            case "type": return typed(a);
            case "clear": { int n = text.length(); text = ""; return n; }
            case "kingdom": return read();
            case "monkey": return monkey(a, b);
            case "like": return isMonkey(a) && isTune(b) ? monkeys.get(a)[2 + b] - 3 : NO;
            case "organ": return !isOrgan(a) || b < 0 || b > 1 ? BAD : b == 0 ? now.place[a] : now.wear[a];
            case "now": return a < 0 || a > 6 ? BAD : nows()[a];
            case "plan": return planned(a);
            case "round": return isOrgan(a) && isTune(b) ? rounds(a, b) : BAD;
            case "bribes": return bribed(a);
            case "odds": return a < 0 || a > 10 || b < 0 || b > 1 ? BAD : odds(a)[b];
            case "knows": return known(a, b, c);
            case "forget": { int n = known.size(); known.clear(); return n; }
            case "can": return can(a, b);
            case "next": return next();
            case "rate": return isMonkey(b) && a >= 0 && a < 6 ? rate(a, b) : NO;
            case "keep": if (a < 0 || a > 1) return BAD; images[a] = now.copy(); return now.cold;
            case "back": return back(a);
            case "count": return a < 0 || a > 5 ? BAD : counts()[a];
            case "trace": return trace;
            case "undo": if (past.isEmpty()) return STATE; now = past.pop(); return past.size();
            default: return done(name, a, b);
        }
    }

    private boolean isMonkey(int m) { return m >= 0 && m < monkeys.size(); }

    private boolean isOrgan(int o) { return o >= 0 && o < organs.size(); }

    private boolean isTune(int t) { return t >= 0 && t < tunes; }

    private int typed(int letter) {
        if (letter < 0 || letter > 255) return BAD;
        if (text.length() == 150) return FULL;
        text += (char) letter;
        return text.length();
    }

    private static final Pattern TOKEN = Pattern.compile("[0-9]+|[^ ]", Pattern.DOTALL);

    /** Item by item, each number against a list of what may stand there. */
    private int read() {
        int s = 3, t = 3, items = 0;
        boolean sTold = false, tTold = false;
        List<int[]> ms = new ArrayList<>(), os = new ArrayList<>();
        List<String> tokens = new ArrayList<>();
        List<Integer> places = new ArrayList<>();
        Matcher matcher = TOKEN.matcher(text);
        while (matcher.find()) {
            tokens.add(matcher.group());
            places.add(matcher.start());
        }
        places.add(text.length());
        int at = 0;
        while (at < tokens.size()) {
            String head = tokens.get(at);
            boolean fits = head.equals("m") ? ms.size() < 6 : head.equals("o") ? os.size() < 3
                : ms.isEmpty() && os.isEmpty() && (head.equals("s") && !sTold || head.equals("t") && !tTold);
            if (!fits) return -10 - places.get(at);
            at++;
            List<int[]> ranges = new ArrayList<>();
            if (head.equals("s")) ranges.add(new int[] {1, 5});
            if (head.equals("t")) ranges.add(new int[] {1, 4});
            if (head.equals("m") || head.equals("o")) ranges.add(new int[] {0, s - 1});
            if (head.equals("m")) ranges.add(new int[] {0, 9});
            if (head.equals("m")) for (int i = 0; i < t; i++) ranges.add(new int[] {0, 6});
            if (head.equals("o")) ranges.add(new int[] {0, 15});
            int[] row = new int[ranges.size()];
            for (int i = 0; i <= ranges.size(); i++) {
                if (at >= tokens.size()) return -10 - text.length();
                String token = tokens.get(at);
                if (i == ranges.size() ? !token.equals(";") : !token.matches("0|[1-9][0-9]?")
                        || Integer.parseInt(token) < ranges.get(i)[0] || Integer.parseInt(token) > ranges.get(i)[1]) {
                    return -10 - places.get(at);
                }
                if (i < ranges.size()) row[i] = Integer.parseInt(token);
                at++;
            }
            items++;
            if (head.equals("s")) { s = row[0]; sTold = true; }
            if (head.equals("t")) { t = row[0]; tTold = true; }
            if (head.equals("m")) ms.add(row);
            if (head.equals("o")) os.add(row);
        }
        text = "";
        streets = s;
        tunes = t;
        monkeys = ms;
        organs = os;
        now = new State();
        for (int o = 0; o < os.size(); o++) {
            now.place[o] = os.get(o)[0];
            now.wear[o] = os.get(o)[1];
        }
        past.clear();
        known.clear();
        images[0] = null;
        images[1] = null;
        return items;
    }

    private int vote(State s, int m) {
        int sum = s.mood[m] + s.nuts[m];
        return s.cold > monkeys.get(m)[1] ? 0 : sum > 0 ? 1 : sum < 0 ? -1 : 0;
    }

    private int votes(State s, int side) {
        int n = 0;
        for (int m = 0; m < monkeys.size(); m++) if (vote(s, m) == side) n++;
        return n;
    }

    private boolean carries(State s) { return votes(s, 1) > votes(s, -1); }

    private int monkey(int m, int what) {
        if (!isMonkey(m) || what < 0 || what > 4) return NO;
        return new int[] {monkeys.get(m)[0], monkeys.get(m)[1], now.mood[m], now.nuts[m], vote(now, m)}[what];
    }

    private int[] nows() {
        return new int[] {now.cold, now.carried, now.lost, votes(now, 1), votes(now, -1), carries(now) ? 1 : 0, past.size()};
    }

    private int[] counts() {
        return new int[] {streets, tunes, monkeys.size(), organs.size(), known.size(), text.length()};
    }

    private int sound(State s, int o, int tune) {
        int heard = (tune + s.wear[o] / 4) % tunes;
        for (int m = 0; m < monkeys.size(); m++) {
            if (monkeys.get(m)[0] != s.place[o]) continue;
            s.mood[m] += monkeys.get(m)[2 + heard] - 3;
            if (s.mood[m] > 99) s.mood[m] = 99;
            if (s.mood[m] < -99) s.mood[m] = -99;
        }
        if (s.wear[o] < 15) s.wear[o]++;
        return heard;
    }

    private int done(String name, int a, int b) {
        State before = now.copy();
        int answer = doIt(name, a, b);
        if (answer < 0) {
            now = before;
            return answer;
        }
        past.push(before);
        if (past.size() > 10) past.removeLast();
        return answer;
    }

    private int doIt(String name, int a, int b) {
        if (name.equals("plays")) return isOrgan(a) && isTune(b) ? sound(now, a, b) : BAD;
        if (name.equals("moves")) {
            if (!isOrgan(a) || b < 0 || b > 1) return BAD;
            if (streets == 1) return STATE;
            return now.place[a] = Math.floorMod(now.place[a] + 2 * b - 1, streets);
        }
        if (name.equals("mends")) {
            if (!isOrgan(a)) return BAD;
            int worn = now.wear[a];
            now.wear[a] = 0;
            return worn == 0 ? STATE : worn;
        }
        if (name.equals("gives")) return !isMonkey(a) ? BAD : now.nuts[a] == 9 ? STATE : ++now.nuts[a];
        if (name.equals("weather")) {
            int cold = now.cold;
            now.cold = a;
            return a < 0 || a > 9 ? BAD : a == cold ? STATE : cold;
        }
        boolean carried = carries(now);
        now.carried += carried ? 1 : 0;
        now.lost += carried ? 0 : 1;
        now.mood = new int[6];
        now.nuts = new int[6];
        return carried ? 1 : 0;
    }

    /** Every row is played anew from its first tune. */
    private int planned(int k) {
        if (k < -1 || k > 2) return BAD;
        int each = organs.size() * tunes;
        for (int many = 0, rows = 1; many <= 3; many++, rows *= each) {
            for (int row = 0; row < rows; row++) {
                State s = now.copy();
                int[] plays = new int[many];
                for (int i = many - 1, rest = row; i >= 0; i--, rest /= each) plays[i] = rest % each;
                for (int play : plays) sound(s, play / tunes, play % tunes);
                if (carries(s)) return k == -1 ? many : k >= many ? NONE : plays[k] / tunes * 10 + plays[k] % tunes;
            }
        }
        return NONE;
    }

    private int rounds(int o, int tune) {
        State s = now.copy();
        for (int i = 1; i <= streets; i++) {
            sound(s, o, tune);
            if (carries(s)) return i;
            s.place[o] = (s.place[o] + 1) % streets;
        }
        return NONE;
    }

    private int bribed(int m) {
        if (m < -1 || m >= monkeys.size()) return BAD;
        for (int all = 0; all <= 54; all++) {
            State s = now.copy();
            if (give(s, 0, all)) return m == -1 ? all : s.nuts[m] - now.nuts[m];
        }
        return NONE;
    }

    /** All ways to give just so many nuts to the monkeys from m on, the fewest to the first of them first. */
    private boolean give(State s, int m, int all) {
        if (m == monkeys.size()) return all == 0 && carries(s);
        for (int n = 0; n <= all && now.nuts[m] + n <= 9; n++) {
            s.nuts[m] = now.nuts[m] + n;
            int room = 9 * (monkeys.size() - m - 1);
            if (all - n <= room && give(s, m + 1, all - n)) return true;
        }
        s.nuts[m] = now.nuts[m];
        return false;
    }

    private int[] odds(int x) {
        BigInteger upper = BigInteger.ZERO;
        int n = monkeys.size();
        for (int awake = 0; awake < 1 << n; awake++) {
            BigInteger ways = BigInteger.ONE;
            int margin = 0;
            for (int m = 0; m < n; m++) {
                boolean isAwake = (awake >> m & 1) == 1;
                ways = ways.multiply(BigInteger.valueOf(isAwake ? 10 - x : x));
                margin += isAwake ? vote(now, m) : 0;
            }
            if (margin > 0) upper = upper.add(ways);
        }
        BigInteger lower = BigInteger.TEN.pow(n);
        BigInteger common = upper.gcd(lower);
        return new int[] {upper.divide(common).intValue(), lower.divide(common).intValue()};
    }

    private int known(int a, int b, int v) {
        if (!isTune(a) || !isTune(b) || v < -1 || v > 1) return BAD;
        if (known.size() == 6) return FULL;
        known.add(new int[] {a, b, v});
        return known.size();
    }

    private List<int[]> rows() {
        List<int[]> rows = new ArrayList<>();
        rows.add(new int[0]);
        for (int t = 0; t < tunes; t++) {
            List<int[]> longer = new ArrayList<>();
            for (int[] row : rows) {
                for (int like = -3; like <= 3; like++) {
                    int[] more = java.util.Arrays.copyOf(row, t + 1);
                    more[t] = like;
                    longer.add(more);
                }
            }
            rows = longer;
        }
        rows.removeIf(row -> known.stream().anyMatch(k -> Integer.signum(row[k[0]] + row[k[1]]) != k[2]));
        return rows;
    }

    private int can(int tune, int what) {
        if (!isTune(tune) || what < 0 || what > 2) return NO;
        List<int[]> rows = rows();
        if (what == 0) return rows.size();
        if (what == 1) return rows.stream().mapToInt(row -> row[tune]).min().orElse(NONE);
        return rows.stream().mapToInt(row -> row[tune]).max().orElse(NONE);
    }

    private int next() {
        List<int[]> rows = rows();
        int best = NONE;
        long bestPart = Long.MAX_VALUE;
        for (int t = 0; t < tunes && rows.size() > 1; t++) {
            int tune = t;
            long part = 0;
            for (int v = -1; v <= 1; v++) {
                int vote = v;
                part = Math.max(part, rows.stream().filter(row -> Integer.signum(row[tune]) == vote).count());
            }
            if (part < bestPart) {
                best = tune;
                bestPart = part;
            }
        }
        return best;
    }

    private int rate(int kind, int m) {
        trace += NUMBERS[kind];
        int up = ABOVE[kind] < 0 ? 0 : rate(ABOVE[kind], m);
        int[] rates = {monkeys.get(m)[1], up + now.mood[m], up - now.nuts[m], 2 * up, up + m, up + now.cold};
        return rates[kind];
    }

    private int back(int image) {
        if (image < 0 || image > 1) return BAD;
        if (images[image] == null) return STATE;
        now = images[image].copy();
        past.clear();
        return now.cold;
    }
}
