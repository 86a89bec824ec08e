import java.util.List;
import java.util.function.Supplier;

/**
 * Every number of every call at both ends of what it may be, and beyond them, in every scene: the
 * last one is taken, the first one beyond is BAD (or NO), and nothing changes behind it.
 */
public final class RangesTest {
    private static final int BAD = MonkeyVotes.BAD;
    private static final int NO = MonkeyVotes.NO;
    private static final String[] NAMES = {
        "type", "monkey", "like", "organ", "now", "plays", "moves", "mends", "gives", "weather", "plan", "round",
        "bribes", "odds", "knows", "can", "rate", "keep", "back", "count"
    };

    private final int which;
    private final Supplier<MonkeyVotes> scene;
    private final List<Long> ahead;
    private final int lastMonkey;
    private final int lastOrgan;
    private final int lastTune;

    private RangesTest(int which) {
        this.which = which;
        scene = () -> Scenes.scene(which);
        ahead = Sight.of(scene);
        MonkeyVotes votes = scene.get();
        lastTune = votes.count(1) - 1;
        lastMonkey = votes.count(2) - 1;
        lastOrgan = votes.count(3) - 1;
    }

    public static void main(String[] args) {
        for (int which = 0; which < Scenes.MANY; which++) {
            RangesTest test = new RangesTest(which);
            for (String name : NAMES) {
                test.takesEnds(name);
                test.refusesBeyond(name);
            }
        }
        Due.end();
    }

    /** The least and the greatest of each number. */
    private int[][] ranges(String name) {
        int[] monkeys = {0, lastMonkey};
        int[] organs = {0, lastOrgan};
        int[] tunes = {0, lastTune};
        switch (name) {
            case "type": return new int[][] {{0, 255}};
            case "monkey": return new int[][] {monkeys, {0, 4}};
            case "like": return new int[][] {monkeys, tunes};
            case "organ": return new int[][] {organs, {0, 1}};
            case "now": return new int[][] {{0, 6}};
            case "plays": return new int[][] {organs, tunes};
            case "moves": return new int[][] {organs, {0, 1}};
            case "mends": return new int[][] {organs};
            case "gives": return new int[][] {monkeys};
            case "weather": return new int[][] {{0, 9}};
            case "plan": return new int[][] {{-1, 2}};
            case "round": return new int[][] {organs, tunes};
            case "bribes": return new int[][] {{-1, lastMonkey}};
            case "odds": return new int[][] {{0, 10}, {0, 1}};
            case "knows": return new int[][] {tunes, tunes, {-1, 1}};
            case "can": return new int[][] {tunes, {0, 2}};
            case "rate": return new int[][] {{0, 5}, monkeys};
            case "keep": return new int[][] {{0, 1}};
            case "back": return new int[][] {{0, 1}};
            case "count": return new int[][] {{0, 5}};
            default: throw new IllegalArgumentException(name);
        }
    }

    private static int refusal(String name) {
        return List.of("monkey", "like", "can", "rate").contains(name) ? NO : BAD;
    }

    private void by(String name) {
        Due.by("scene " + which + ", " + name + ": BAD (a number is not as told, or there is no such thing)");
    }

    /** All rows of least and greatest numbers, a bit for each number. */
    private void takesEnds(String name) {
        by(name);
        int[][] ranges = ranges(name);
        for (int[] range : ranges) {
            if (range[0] > range[1]) {
                return;
            }
        }
        for (int bits = 0; bits < 1 << ranges.length; bits++) {
            int[] n = ends(ranges, bits);
            long answer = Calls.answer(scene.get(), name, n[0], n[1], n[2]);
            String call = name + "(" + n[0] + ", " + n[1] + ", " + n[2] + ")";
            Due.is(call + " is taken", answer == refusal(name) ? 0 : 1, 1);
        }
    }

    private void refusesBeyond(String name) {
        by(name);
        int[][] ranges = ranges(name);
        for (int i = 0; i < ranges.length; i++) {
            int[] beyond = {ranges[i][0] - 1, ranges[i][1] + 1, Integer.MIN_VALUE, Integer.MAX_VALUE};
            for (int number : beyond) {
                for (int bits = 0; bits < 1 << ranges.length; bits += ranges.length > 1 ? 1 : 2) {
                    int[] n = ends(ranges, bits);
                    n[i] = number;
                    Due.refused(scene, ahead, refusal(name), name, n);
                }
            }
        }
        int[] all = {-2, -2, -2};
        Due.refused(scene, ahead, refusal(name), name, all);
    }

    private static int[] ends(int[][] ranges, int bits) {
        int[] n = new int[3];
        for (int i = 0; i < ranges.length; i++) {
            n[i] = ranges[i][bits >> i & 1];
        }
        return n;
    }
}
