/** Promises 1 to 8: a new object, term, node, arc, put, wake, act, fold. */
public final class BuildTest {
    private static final int NONE = WalkedRounds.NONE, UNKNOWN = WalkedRounds.UNKNOWN;
    private static final int OUTSIDE = WalkedRounds.OUTSIDE, FULL_UP = WalkedRounds.FULL_UP;

    public static void main(String[] args) {
        newObject();
        termKindsAndParts();
        termOrderOfRefusals();
        nodes();
        arcs();
        puts();
        wakes();
        acts();
        folds();
        Due.end();
    }

    private static void newObject() {
        WalkedRounds x = new WalkedRounds();
        for (int what = 0; what < 8; what++) Due.is("new: count(" + what + ")", x.count(what), 0);
        Due.is("new: whole()", x.whole(), 0);
        Due.is("new: why()", x.why(), 0);
        Due.is("new: undo()", x.undo(), NONE);
        Due.is("new: along(0)", x.along(0), OUTSIDE);
        Due.is("new: message(0)", x.message(0), OUTSIDE);
        Due.is("new: state(0, 0)", x.state(0, 0), UNKNOWN);
        Due.is("new: awake(0)", x.awake(0), UNKNOWN);
        Due.is("new: ask(0, 0, NONE)", x.ask(0, 0, NONE), UNKNOWN);
        Due.noFailure("new", x);
        for (int which = 0; which < 7; which++) Due.is("new: act(" + which + ")", x.act(which, NONE), NONE);
        Due.is("new: fold(0)", x.fold(0), 0);
        for (int form = 0; form < 3; form++) Due.is("new: run(" + form + ", 1)", x.run(form, 1), 0);
    }

    private static void termKindsAndParts() {
        int[] parts = {0, 0, 0, 0, 0, 0, 0, 0, 2, 2, 2, 2, 2, 2, 2, 2, 3, 1};
        for (int kind = 0; kind < parts.length; kind++) {
            WalkedRounds x = new WalkedRounds();
            Due.number(x, 1);
            int a = parts[kind] > 0 ? 0 : 99, b = parts[kind] > 1 ? 0 : -7, c = parts[kind] > 2 ? 0 : Integer.MIN_VALUE;
            Due.is("parts of kind " + kind, x.term(kind, a, b, c, kind == 1 ? 2 : Long.MIN_VALUE), 1);
            for (int bad : new int[] {-1, 2, Integer.MAX_VALUE}) {
                Due.is("a of kind " + kind, x.term(kind, bad, 0, 0, 0) == UNKNOWN ? 1 : 0, parts[kind] > 0 ? 1 : 0);
            }
            int many = x.count(0);
            for (int bad : new int[] {-1, many, Integer.MIN_VALUE}) {
                Due.is("b of kind " + kind, x.term(kind, 0, bad, 0, 0) == UNKNOWN ? 1 : 0, parts[kind] > 1 ? 1 : 0);
            }
            many = x.count(0);
            for (int bad : new int[] {-1, many, Integer.MIN_VALUE}) {
                Due.is("c of kind " + kind, x.term(kind, 0, 0, bad, 0) == UNKNOWN ? 1 : 0, parts[kind] > 2 ? 1 : 0);
            }
        }
    }

    private static void termOrderOfRefusals() {
        WalkedRounds x = new WalkedRounds();
        for (int kind : new int[] {-1, 18, Integer.MIN_VALUE, Integer.MAX_VALUE}) {
            Due.is("kind " + kind, x.term(kind, -1, -1, -1, 0), OUTSIDE);
        }
        for (long n : new long[] {-1, 3, 1L << 32, Long.MIN_VALUE, Long.MAX_VALUE}) {
            Due.is("state " + n, x.term(1, 0, 0, 0, n), OUTSIDE);
        }
        Due.is("a term is no part of its own", x.term(17, 0, 0, 0, 0), UNKNOWN);
        Due.is("refused terms are not kept", x.count(0), 0);
        for (int i = 0; i < 40; i++) Due.is("term " + i, Due.number(x, i), i);
        Due.is("term 40", Due.number(x, 0), FULL_UP);
        Due.is("kind ahead of room", x.term(18, 0, 0, 0, 0), OUTSIDE);
        Due.is("parts ahead of room", x.term(8, 0, 40, 0, 0), UNKNOWN);
        Due.is("n ahead of room", x.term(1, 0, 0, 0, 3), OUTSIDE);
        Due.is("40 terms", x.count(0), 40);
    }

    private static void nodes() {
        WalkedRounds x = Due.withNodes(12);
        Due.is("13th node", x.node(), FULL_UP);
        Due.is("12 nodes", x.count(1), 12);
        Due.is("all awake", x.count(4), 12);
        for (int i = 0; i < 12; i++) {
            Due.is("awake at first", x.awake(i), 1);
            for (int k = 0; k < 3; k++) Due.is("state at first", x.state(i, k), 0);
        }
    }

    private static void arcs() {
        WalkedRounds x = Due.withNodes(2);
        for (int bad : new int[] {-1, 2, Integer.MIN_VALUE, Integer.MAX_VALUE}) {
            Due.is("arc from " + bad, x.arc(bad, 0, 0), UNKNOWN);
            Due.is("arc to " + bad, x.arc(0, bad, 0), UNKNOWN);
        }
        Due.is("no arc yet", x.count(2), 0);
        for (int i = 0; i < 40; i++) Due.is("arc " + i, x.arc(i % 2, i % 3 == 0 ? 0 : 1, i), i);
        Due.is("41st arc", x.arc(0, 0, 0), FULL_UP);
        Due.is("nodes ahead of room", x.arc(0, 2, 0), UNKNOWN);
        Due.is("40 arcs", x.count(2), 40);
        int weight = Due.leaf(x, 2);
        Due.is("weight 39", x.ask(weight, 0, 39), 39);
    }

    private static void puts() {
        WalkedRounds x = Due.withNodes(2);
        for (int k = 0; k < 3; k++) Due.is("put", x.put(1, k, Long.MIN_VALUE + k), 1);
        for (int k = 0; k < 3; k++) Due.is("what was put", x.state(1, k), Long.MIN_VALUE + k);
        for (int k = 0; k < 3; k++) Due.is("of another node", x.state(0, k), 0);
        Due.is("put the same", x.put(1, 0, Long.MIN_VALUE), 1);
        Due.is("put at node 2", x.put(2, 0, 1), UNKNOWN);
        Due.is("put at node -1", x.put(-1, 0, 1), UNKNOWN);
        Due.is("put state 3", x.put(0, 3, 1), OUTSIDE);
        Due.is("put state -1", x.put(0, -1, 1), OUTSIDE);
        Due.is("node ahead of state", x.put(2, 3, 1), UNKNOWN);
        Due.is("nothing was put", x.state(0, 0), 0);
    }

    private static void wakes() {
        WalkedRounds x = Due.withNodes(2);
        Due.is("awake it was", x.wake(0, true), 0);
        Due.is("to sleep", x.wake(0, false), 1);
        Due.awake("asleep", x, 0, 1);
        Due.is("asleep it was", x.wake(0, false), 0);
        Due.is("one is awake", x.count(4), 1);
        Due.is("awake again", x.wake(0, true), 1);
        Due.awake("both", x, 1, 1);
        Due.is("wake node 2", x.wake(2, true), UNKNOWN);
        Due.is("wake node -1", x.wake(-1, false), UNKNOWN);
    }

    private static void acts() {
        WalkedRounds x = new WalkedRounds();
        Due.is("no term", x.act(0, 0), UNKNOWN);
        Due.number(x, 5);
        Due.number(x, 6);
        for (int which = 0; which < 7; which++) {
            Due.is("none before", x.act(which, 0), NONE);
            Due.is("0 before", x.act(which, 1), 0);
            Due.is("1 before", x.act(which, 1), 1);
        }
        for (int which : new int[] {-1, 7, Integer.MIN_VALUE, Integer.MAX_VALUE}) {
            Due.is("act " + which, x.act(which, 0), OUTSIDE);
            Due.is("none of act " + which, x.act(which, NONE), OUTSIDE);
            Due.is("term ahead of act", x.act(which, 2), UNKNOWN);
        }
        Due.is("term 2", x.act(3, 2), UNKNOWN);
        Due.is("term -2", x.act(3, -2), UNKNOWN);
        for (int which = 0; which < 7; which++) Due.is("still 1", x.act(which, NONE), 1);
        for (int which = 0; which < 7; which++) Due.is("none again", x.act(which, NONE), NONE);
    }

    private static void folds() {
        WalkedRounds x = new WalkedRounds();
        for (int sort = 1; sort < 4; sort++) Due.is("fold(" + sort + ")", x.fold(sort), sort - 1);
        Due.is("fold(4)", x.fold(4), OUTSIDE);
        Due.is("fold(-1)", x.fold(-1), OUTSIDE);
        Due.is("still 3", x.fold(0), 3);
        Due.is("0 again", x.fold(0), 0);
    }
}
