/** Counts the answers that are not as due; each test ends with end(). */
final class Due {
    private static int wrong = 0;
    private static int asked = 0;

    private Due() {
    }

    static void is(String what, long got, long want) {
        asked++;
        if (got == want) return;
        wrong++;
        if (wrong <= 50) System.out.println(what + " answered " + got + ", due is " + want);
    }

    static void holds(String what, boolean so) {
        is(what, so ? 1 : 0, 1);
    }

    /** Nodes 0 .. n - 1 in a new object. */
    static WalkedRounds withNodes(int n) {
        WalkedRounds x = new WalkedRounds();
        for (int i = 0; i < n; i++) is("node()", x.node(), i);
        return x;
    }

    static int number(WalkedRounds x, long n) {
        return x.term(0, 0, 0, 0, n);
    }

    static int leaf(WalkedRounds x, int kind) {
        return x.term(kind, 0, 0, 0, 0);
    }

    static int state(WalkedRounds x, int k) {
        return x.term(1, 0, 0, 0, k);
    }

    static int join(WalkedRounds x, int kind, int a, int b) {
        return x.term(kind, a, b, 0, 0);
    }

    /** A term of kind 8 that takes 2 to the power of doublings + 1, less 1, steps. */
    static int heavy(WalkedRounds x, int doublings) {
        int t = number(x, 0);
        for (int i = 0; i < doublings; i++) t = join(x, 8, t, t);
        return t;
    }

    static void failed(String what, WalkedRounds x, int failure, int act, int node, int arc, int round) {
        is(what + ": failed(0)", x.failed(0), failure);
        is(what + ": failed(1)", x.failed(1), act);
        is(what + ": failed(2)", x.failed(2), node);
        is(what + ": failed(3)", x.failed(3), arc);
        is(what + ": failed(4)", x.failed(4), round);
    }

    static void noFailure(String what, WalkedRounds x) {
        failed(what, x, 0, -1, -1, -1, -1);
    }

    static void states(String what, WalkedRounds x, int k, long... want) {
        for (int i = 0; i < want.length; i++) is(what + ": state(" + i + ", " + k + ")", x.state(i, k), want[i]);
    }

    static void awake(String what, WalkedRounds x, int... want) {
        for (int i = 0; i < want.length; i++) is(what + ": awake(" + i + ")", x.awake(i), want[i]);
    }

    static void along(String what, WalkedRounds x, int... want) {
        is(what + ": count(6)", x.count(6), want.length);
        for (int i = 0; i < want.length; i++) is(what + ": along(" + i + ")", x.along(i), want[i]);
        is(what + ": along() after the last", x.along(want.length), WalkedRounds.OUTSIDE);
    }

    static void messages(String what, WalkedRounds x, long... want) {
        is(what + ": count(6)", x.count(6), want.length);
        for (int i = 0; i < want.length; i++) is(what + ": message(" + i + ")", x.message(i), want[i]);
        is(what + ": message() after the last", x.message(want.length), WalkedRounds.OUTSIDE);
    }

    static void end() {
        System.out.println(asked + " answers, " + wrong + " not as due");
        if (wrong != 0) System.exit(1);
    }
}
