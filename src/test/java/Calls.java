/** Calls by their names, for tests that go through all of them. */
final class Calls {
    private Calls() {
    }

    /** The numbers that a call does not take are left out of it. */
    static long answer(MonkeyVotes votes, String name, int a, int b, int c) {
        switch (name) {
            case "type": return votes.type(a);
            case "clear": return votes.clear();
            case "kingdom": return votes.kingdom();
            case "monkey": return votes.monkey(a, b);
            case "like": return votes.like(a, b);
            case "organ": return votes.organ(a, b);
            case "now": return votes.now(a);
            case "plays": return votes.plays(a, b);
            case "moves": return votes.moves(a, b);
            case "mends": return votes.mends(a);
            case "gives": return votes.gives(a);
            case "weather": return votes.weather(a);
            case "poll": return votes.poll();
            case "undo": return votes.undo();
            case "plan": return votes.plan(a);
            case "round": return votes.round(a, b);
            case "bribes": return votes.bribes(a);
            case "odds": return votes.odds(a, b);
            case "knows": return votes.knows(a, b, c);
            case "forget": return votes.forget();
            case "can": return votes.can(a, b);
            case "next": return votes.next();
            case "rate": return votes.rate(a, b);
            case "keep": return votes.keep(a);
            case "back": return votes.back(a);
            case "count": return votes.count(a);
            case "trace": return votes.trace();
            default: throw new IllegalArgumentException(name);
        }
    }
}
