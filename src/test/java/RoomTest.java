import com.sun.management.ThreadMXBean;
import java.lang.management.ManagementFactory;

/** All calls of a run live in one room: calls make no objects, and a new object is small. */
public final class RoomTest {
    private static final String TEXT =
        "s5;t4;m0 9 6 5 4 3;m1 8 0 1 2 3;m2 7 3 3 6 0;m3 6 1 6 1 6;m4 5 4 2 4 2;m4 0 2 2 2 2;o0 4;o4 8;o2 13;";

    public static void main(String[] args) {
        ThreadMXBean bean = (ThreadMXBean) ManagementFactory.getThreadMXBean();
        MonkeyVotes warm = new MonkeyVotes();
        callsAll(warm);
        bean.getCurrentThreadAllocatedBytes();

        long before = bean.getCurrentThreadAllocatedBytes();
        MonkeyVotes votes = new MonkeyVotes();
        long made = bean.getCurrentThreadAllocatedBytes() - before;
        Due.is("a new object takes " + made + " bytes, less than 20000", made < 20000 ? 1 : 0, 1);

        before = bean.getCurrentThreadAllocatedBytes();
        for (int i = 0; i < 20; i++) {
            callsAll(votes);
        }
        made = bean.getCurrentThreadAllocatedBytes() - before;
        Due.is("calls take " + made + " bytes, less than 4096", made < 4096 ? 1 : 0, 1);
        Due.end();
    }

    private static void callsAll(MonkeyVotes votes) {
        votes.clear();
        Due.types(votes, TEXT);
        votes.kingdom();
        votes.plays(0, 0);
        votes.moves(0, 1);
        votes.mends(0);
        votes.gives(0);
        votes.weather(1);
        votes.poll();
        votes.undo();
        votes.weather(9);
        for (int k = -1; k < 3; k++) {
            votes.plan(k);
        }
        votes.round(1, 1);
        votes.bribes(-1);
        votes.bribes(2);
        votes.odds(3, 0);
        votes.knows(0, 1, 1);
        votes.can(0, 0);
        votes.next();
        votes.forget();
        for (int kind = 0; kind < 6; kind++) {
            votes.rate(kind, 3);
        }
        votes.keep(0);
        votes.back(0);
        for (int what = 0; what < 7; what++) {
            votes.now(what);
            votes.count(what);
            votes.monkey(1, what);
            votes.organ(1, what);
        }
    }
}
