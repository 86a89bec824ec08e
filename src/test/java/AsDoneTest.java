import java.util.Random;

/**
 * What is answered "as things are NOW" (part 3) against what comes of it when it is done, in kingdoms
 * by chance (always the same ones): the plan is played, the round is gone, the nuts are given, the
 * sleepers sleep, and one whose likes are known is asked how it votes.
 */
public final class AsDoneTest {
    private static final int NONE = MonkeyVotes.NONE;
    private static final int KINGDOMS = 600;
    /** How often each is met: a test that meets nothing would tell nothing. */
    private static final int[] met = new int[5];

    private final Random random;
    private final String text;
    private final int[][] done;

    private AsDoneTest(int seed) {
        random = new Random(seed);
        text = text();
        done = new int[random.nextInt(30)][];
        for (int i = 0; i < done.length; i++) {
            done[i] = new int[] {random.nextInt(12), random.nextInt(6), random.nextInt(4)};
        }
    }

    public static void main(String[] args) {
        for (int seed = 0; seed < KINGDOMS; seed++) {
            AsDoneTest test = new AsDoneTest(seed);
            test.plan();
            test.round();
            test.bribes();
            test.odds();
            test.likings();
        }
        Due.by("each is met often enough");
        for (int i = 0; i < met.length; i++) {
            Due.is("question " + i + " is met " + met[i] + " times", met[i] >= 50 ? 1 : 0, 1);
        }
        Due.end();
    }

    private String text() {
        int streets = 1 + random.nextInt(3);
        int tunes = 1 + random.nextInt(4);
        StringBuilder text = new StringBuilder("s" + streets + ";t" + tunes + ";");
        for (int m = 1 + random.nextInt(6); m > 0; m--) {
            text.append('m').append(random.nextInt(streets)).append(' ').append(random.nextInt(10));
            for (int tune = 0; tune < tunes; tune++) {
                text.append(' ').append(random.nextInt(7));
            }
            text.append(';');
        }
        for (int o = random.nextInt(4); o > 0; o--) {
            text.append('o').append(random.nextInt(streets)).append(' ').append(random.nextInt(16)).append(';');
        }
        return text.toString();
    }

    /** The kingdom behind what was done in it, anew each time. */
    private MonkeyVotes scene() {
        MonkeyVotes votes = Due.told(text);
        for (int[] call : done) {
            switch (call[0]) {
                case 0: votes.weather(call[1]); break;
                case 1: votes.moves(call[1], 1); break;
                case 2: votes.gives(call[1]); break;
                case 3: votes.mends(call[1] % 3); break;
                default: votes.plays(call[1] % 3, call[2]); break;
            }
        }
        return votes;
    }

    private void plan() {
        Due.by("PLAN: behind which it CARRIES: " + text);
        MonkeyVotes votes = scene();
        int many = votes.plan(-1);
        int[] row = {votes.plan(0), votes.plan(1), votes.plan(2)};
        Due.is("plan(-1)", many, fewestTunes(3));
        for (int k = 0; k < many; k++) {
            Due.is("now(5) ahead of tune " + k, votes.now(5), 0);
            Due.is("plays() of tune " + k + " is taken", votes.plays(row[k] / 10, row[k] % 10) >= 0 ? 1 : 0, 1);
        }
        Due.is("now(5) behind the plan", votes.now(5), many == NONE ? 0 : 1);
        met[0] += many > 0 ? 1 : 0;
    }

    /** By playing all rows, the shorter ones first, each in a kingdom of its own. */
    private int fewestTunes(int most) {
        MonkeyVotes votes = scene();
        int tunes = votes.count(1);
        int choices = votes.count(3) * tunes;
        int rows = 1;
        for (int many = 0; many <= most; many++) {
            for (int number = 0; number < rows; number++) {
                if (carriesBehind(number, many, choices, tunes)) {
                    return many;
                }
            }
            rows *= choices;
        }
        return NONE;
    }

    private boolean carriesBehind(int number, int many, int choices, int tunes) {
        MonkeyVotes votes = scene();
        int rest = number;
        for (int i = 0; i < many; i++) {
            votes.plays(rest % choices / tunes, rest % choices % tunes);
            rest /= choices;
        }
        return votes.now(5) == 1;
    }

    private void round() {
        Due.by("ROUND: it plays where it is, goes on, plays there, and so on: " + text);
        MonkeyVotes sight = scene();
        for (int o = 0; o < sight.count(3); o++) {
            for (int tune = 0; tune < sight.count(1); tune++) {
                MonkeyVotes votes = scene();
                int want = NONE;
                for (int times = 1; times <= votes.count(0) && want == NONE; times++) {
                    votes.plays(o, tune);
                    want = votes.now(5) == 1 ? times : NONE;
                    votes.moves(o, 1);
                }
                Due.is("round(" + o + ", " + tune + ")", sight.round(o, tune), want);
                met[1] += want > 1 ? 1 : 0;
            }
        }
    }

    private void bribes() {
        Due.by("BRIBES: to GIVE NUTS behind which it CARRIES: " + text);
        MonkeyVotes votes = scene();
        int all = votes.bribes(-1);
        if (all == NONE) {
            return;
        }
        int[] nuts = new int[votes.count(2)];
        int sum = 0;
        for (int m = 0; m < nuts.length; m++) {
            nuts[m] = votes.bribes(m);
            sum += nuts[m];
        }
        Due.is("bribes() of each together", sum, all);
        for (int m = 0; m < nuts.length; m++) {
            for (int i = 0; i < nuts[m]; i++) {
                Due.is("now(5) ahead of the last nut", votes.now(5), 0);
                Due.is("gives(" + m + ") is taken", votes.gives(m) > 0 ? 1 : 0, 1);
            }
        }
        Due.is("now(5) behind the nuts", votes.now(5), 1);
        Due.is("bribes(-1) behind the nuts", votes.bribes(-1), 0);
        met[2] += all > 1 ? 1 : 0;
    }

    /** The sleepers are counted by rows of who is awake, each by its weight. */
    private void odds() {
        Due.by("ODDS: that it is CARRIED: a fraction: " + text);
        MonkeyVotes votes = scene();
        int monkeys = votes.count(2);
        int x = random.nextInt(11);
        long upper = 0;
        for (int awake = 0; awake < 1 << monkeys; awake++) {
            long weight = 1;
            int margin = 0;
            for (int m = 0; m < monkeys; m++) {
                boolean isAwake = (awake >> m & 1) == 1;
                weight *= isAwake ? 10 - x : x;
                margin += isAwake ? votes.monkey(m, 4) : 0;
            }
            upper += margin > 0 ? weight : 0;
        }
        long lower = (long) Math.pow(10, monkeys);
        Due.is("odds(" + x + ") crosswise", votes.odds(x, 0) * lower, upper * votes.odds(x, 1));
        for (int divisor = 2; divisor <= 5; divisor += 3) {
            boolean isLeast = votes.odds(x, 0) % divisor != 0 || votes.odds(x, 1) % divisor != 0;
            Due.is("odds(" + x + ") by " + divisor, isLeast ? 1 : 0, 1);
        }
        met[3] += upper > 0 && upper < lower ? 1 : 0;
    }

    /** One that hears two tunes in truth votes so that its own likes stay among those that can be. */
    private void likings() {
        Due.by("KNOWN: MOOD 0, without NUTS, not cold, HEARD TUNE a, then TUNE b, and VOTED v: " + text);
        int tunes = 1 + random.nextInt(4);
        StringBuilder one = new StringBuilder("t" + tunes + ";m0 9");
        for (int tune = 0; tune < tunes; tune++) {
            one.append(' ').append(random.nextInt(7));
        }
        MonkeyVotes votes = Due.told(one.append(";o0 0;").toString());
        int rows = votes.can(0, 0);
        for (int i = 0; i < 6; i++) {
            int a = i == 0 ? Math.max(0, votes.next()) : random.nextInt(tunes);
            int b = i == 0 ? a : random.nextInt(tunes);
            Moods.hears(votes, a);
            Moods.hears(votes, b);
            votes.knows(a, b, votes.monkey(0, 4));
            votes.poll();
            Due.is("can(0, 0) is not more than before", votes.can(0, 0) <= rows ? 1 : 0, 1);
            rows = votes.can(0, 0);
            Due.is("can(0, 0) has its own row", rows >= 1 ? 1 : 0, 1);
            for (int tune = 0; tune < tunes; tune++) {
                int like = votes.like(0, tune);
                Due.is("can(" + tune + ", 1) is not above its like", votes.can(tune, 1) <= like ? 1 : 0, 1);
                Due.is("can(" + tune + ", 2) is not below its like", votes.can(tune, 2) >= like ? 1 : 0, 1);
            }
        }
        met[4] += rows > 1 ? 1 : 0;
    }
}
