/** What each kind of term comes to, and promises 12 and 13: ask, why. */
public final class AskTest {
    private static final int NONE = WalkedRounds.NONE, UNKNOWN = WalkedRounds.UNKNOWN;
    private static final long MIN = Long.MIN_VALUE, MAX = Long.MAX_VALUE;

    public static void main(String[] args) {
        leaves();
        joins();
        divisions();
        choice();
        stateAt();
        steps();
        refusals();
        Due.end();
    }

    private static void leaves() {
        WalkedRounds x = Due.withNodes(2);
        x.arc(0, 1, -8);
        x.arc(0, 0, 9);
        for (int k = 0; k < 3; k++) x.put(1, k, 10 + k);
        Due.asks("a number", x, Due.number(x, MIN), 0, NONE, MIN, 0);
        for (int k = 0; k < 3; k++) Due.asks("state " + k, x, Due.state(x, k), 1, NONE, 10 + k, 0);
        Due.asks("state of node 0", x, 1, 0, NONE, 0, 0);
        int weight = Due.leaf(x, 2);
        Due.asks("weight of none", x, weight, 0, NONE, 0, 0);
        Due.asks("weight of arc 0", x, weight, 0, 0, -8, 0);
        Due.asks("an arc of another node", x, weight, 1, 1, 9, 0);
        Due.asks("nothing folded", x, Due.leaf(x, 3), 1, NONE, 0, 0);
        Due.asks("of no messages", x, Due.leaf(x, 4), 1, NONE, 0, 0);
        int round = Due.leaf(x, 5), degree = Due.leaf(x, 6), whole = Due.leaf(x, 7);
        Due.asks("round 1", x, round, 0, NONE, 1, 0);
        Due.asks("arcs from node 0", x, degree, 0, NONE, 2, 0);
        Due.asks("arcs from node 1", x, degree, 1, NONE, 0, 0);
        Due.asks("the whole at first", x, whole, 0, NONE, 0, 0);
        x.act(2, Due.leaf(x, 3));
        x.act(6, Due.number(x, 21));
        Due.is("3 rounds", x.run(0, 3), 3);
        Due.asks("round 4", x, round, 0, NONE, 4, 0);
        Due.asks("the whole", x, whole, 0, NONE, 42, 0);
        Due.asks("nothing folded after rounds", x, Due.leaf(x, 3), 1, NONE, 0, 0);
        Due.asks("of no messages after rounds", x, Due.leaf(x, 4), 1, NONE, 0, 0);
        x.act(5, x.term(17, Due.number(x, 3), 0, 0, 0));
        for (int form = 0; form < 3; form++) {
            Due.is("fails with something FOLDED", x.run(form, 1), 0);
            Due.is("fails at HALT", x.failed(1), 5);
            Due.asks("nothing folded after a failure", x, Due.leaf(x, 3), 1, NONE, 0, 0);
            Due.asks("of no messages after a failure", x, Due.leaf(x, 4), 1, NONE, 0, 0);
        }
    }

    private static void joined(int kind, long a, long b, long want, int why) {
        WalkedRounds x = Due.withNodes(1);
        int t = Due.join(x, kind, Due.number(x, a), Due.number(x, b));
        Due.asks("kind " + kind + " of " + a + " and " + b, x, t, 0, NONE, want, why);
        Due.is("three steps", x.count(5), 3);
    }

    private static void joins() {
        joined(8, 3, 4, 7, 0);
        joined(8, MAX, 1, MIN, 0);
        joined(9, 3, 4, -1, 0);
        joined(9, MIN, 1, MAX, 0);
        joined(10, -3, 4, -12, 0);
        joined(10, MAX, 2, -2, 0);
        joined(13, 3, -4, -4, 0);
        joined(13, MIN, MAX, MIN, 0);
        joined(14, 3, -4, 3, 0);
        joined(14, MIN, MAX, MAX, 0);
        joined(15, 3, 4, 1, 0);
        joined(15, 4, 4, 0, 0);
        joined(15, 5, 4, 0, 0);
        joined(15, MIN, MAX, 1, 0);
    }

    private static void divisions() {
        joined(11, -7, 2, -3, 0);
        joined(11, MIN, -1, MIN, 0);
        joined(11, 7, 0, 0, 1);
        joined(12, -7, 2, -1, 0);
        joined(12, 7, -2, 1, 0);
        joined(12, MIN, -1, 0, 0);
        joined(12, 7, 0, 0, 1);
    }

    private static void choice() {
        WalkedRounds x = Due.withNodes(1);
        int zero = Due.number(x, 0), minus = Due.number(x, -1), five = Due.number(x, 5);
        int bad = Due.join(x, 11, five, zero);
        Due.asks("b, c is not asked", x, x.term(16, minus, five, bad, 0), 0, NONE, 5, 0);
        Due.is("its steps", x.count(5), 3);
        Due.asks("c, b is not asked", x, x.term(16, zero, bad, five, 0), 0, NONE, 5, 0);
        Due.is("its steps too", x.count(5), 6);
        Due.asks("a fails", x, x.term(16, bad, five, five, 0), 0, NONE, 0, 1);
        Due.is("it ends with a", x.count(5), 10);
        Due.asks("b fails", x, x.term(16, five, bad, five, 0), 0, NONE, 0, 1);
        Due.asks("c fails", x, x.term(16, zero, five, bad, 0), 0, NONE, 0, 1);
        int before = x.count(5);
        Due.asks("a fails ahead of b", x, Due.join(x, 8, bad, five), 0, NONE, 0, 1);
        Due.is("b is not asked then", x.count(5), before + 4);
        Due.asks("b fails after a", x, Due.join(x, 8, five, bad), 0, NONE, 0, 1);
    }

    private static void stateAt() {
        WalkedRounds x = Due.withNodes(2);
        for (int k = 0; k < 3; k++) x.put(1, k, 70 + k);
        for (int k = 0; k < 3; k++) {
            Due.asks("state at " + k, x, x.term(17, Due.number(x, k), -1, -1, 0), 1, NONE, 70 + k, 0);
        }
        Due.asks("as an int", x, x.term(17, Due.number(x, (1L << 32) + 2), 0, 0, 0), 1, NONE, 72, 0);
        for (long i : new long[] {-1, 3, 1L << 31, MAX}) {
            Due.asks("no state " + i, x, x.term(17, Due.number(x, i), 0, 0, 0), 1, NONE, 0, 2);
        }
        Due.asks("as an int 0", x, x.term(17, Due.number(x, MIN), 0, 0, 0), 1, NONE, 70, 0);
        int two = Due.number(x, 2), zero = Due.number(x, 0);
        int bad = x.term(17, Due.join(x, 12, two, zero), 0, 0, 0);
        Due.asks("the part's failure", x, bad, 1, NONE, 0, 1);
    }

    private static void steps() {
        WalkedRounds x = Due.withNodes(1);
        int t = Due.heavy(x, 10);
        Due.asks("2047 steps", x, t, 0, NONE, 0, 0);
        Due.is("are counted", x.count(5), 2047);
        int exact = chainOf(x, 3000);
        Due.asks("3000 steps", x, exact, 0, NONE, 0, 0);
        Due.is("are counted too", x.count(5), 5047);
        int more = x.term(17, exact, 0, 0, 0);
        Due.asks("3001 steps", x, more, 0, NONE, 0, 4);
        Due.is("the 3001st is not", x.count(5), 8047);
        Due.asks("3000 steps once more", x, exact, 0, NONE, 0, 0);
        Due.noFailure("ask() is no run()", x);
        WalkedRounds z = Due.withNodes(1);
        Due.heavy(z, 10);
        int chain = chainOf(z, 2999);
        Due.asks("the choice is the 3001st", z, z.term(16, chain, 0, 0, 0), 0, NONE, 0, 4);
        Due.is("3000 steps", z.count(5), 3000);
        WalkedRounds y = Due.withNodes(1);
        int deep = Due.number(y, 0);
        for (int i = 0; i < 39; i++) deep = y.term(17, deep, 0, 0, 0);
        Due.asks("40 deep", y, deep, 0, NONE, 0, 0);
        Due.is("40 steps", y.count(5), 40);
    }

    /** Terms 0 .. 10 of heavy() have 2 to the power of i + 1, less 1, steps; joined, a term of the steps told. */
    private static int chainOf(WalkedRounds x, int steps) {
        int t = 10;
        int left = steps - 2047;
        for (int i = 9; i >= 0; i--) {
            int cost = (1 << (i + 1)) - 1;
            if (left < cost + 1) continue;
            t = Due.join(x, 8, t, i);
            left -= cost + 1;
        }
        for (; left > 0; left--) t = x.term(17, t, 0, 0, 0);
        return t;
    }

    private static void refusals() {
        WalkedRounds x = Due.withNodes(1);
        x.arc(0, 0, 3);
        int zero = Due.number(x, 0);
        int bad = Due.join(x, 11, zero, zero);
        for (int t : new int[] {-1, 2, Integer.MIN_VALUE}) Due.asks("term " + t, x, t, 0, 0, UNKNOWN, 0);
        for (int node : new int[] {-1, 1, Integer.MAX_VALUE}) Due.asks("node " + node, x, zero, node, 0, UNKNOWN, 0);
        for (int arc : new int[] {-2, 1, Integer.MIN_VALUE}) Due.asks("arc " + arc, x, zero, 0, arc, UNKNOWN, 0);
        Due.is("no steps", x.count(5), 0);
        Due.asks("fails", x, bad, 0, 0, 0, 1);
        Due.asks("refused after that", x, bad, 1, 0, UNKNOWN, 0);
        Due.asks("fails again", x, bad, 0, 0, 0, 1);
        x.run(0, 1);
        Due.is("why() is of ask() alone", x.why(), 1);
        Due.asks("and is well", x, zero, 0, 0, 0, 0);
    }
}
