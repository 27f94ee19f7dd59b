/** Counts the answers that are not as due; each test ends with end(). */
final class Due {
    private static int wrong = 0;
    private static int asked = 0;
    private static String heading = "";

    private Due() {
    }

    /** What stands ahead of each wrong answer from here on. */
    static void under(String newHeading) {
        heading = newHeading;
    }

    static int asked() {
        return asked;
    }

    static void is(String what, long got, long want) {
        asked++;
        if (got == want) return;
        wrong++;
        if (wrong <= 50) System.out.println(heading + what + " answered " + got + ", due is " + want);
    }

    static void holds(String what, boolean so) {
        is(what, so ? 1 : 0, 1);
    }

    /** Nodes 0 .. n - 1 in a new object. */
    static WalkedRounds withNodes(int n) {
        WalkedRounds x = new WalkedRounds();
        for (int i = 0; i < n; i++) is("node()", x.node(), i);
        return x;
    }

    static int number(WalkedRounds x, long n) {
        return x.term(0, 0, 0, 0, n);
    }

    static int leaf(WalkedRounds x, int kind) {
        return x.term(kind, 0, 0, 0, 0);
    }

    static int state(WalkedRounds x, int k) {
        return x.term(1, 0, 0, 0, k);
    }

    static int join(WalkedRounds x, int kind, int a, int b) {
        return x.term(kind, a, b, 0, 0);
    }

    static int choose(WalkedRounds x, int a, int b, int c) {
        return x.term(16, a, b, c, 0);
    }

    static int stateAt(WalkedRounds x, int a) {
        return x.term(17, a, 0, 0, 0);
    }

    /** A term that always fails, by DIVISION. */
    static int division(WalkedRounds x) {
        int zero = number(x, 0);
        return join(x, 11, zero, zero);
    }

    /** A term that always fails, by INDEX. */
    static int index(WalkedRounds x) {
        return stateAt(x, number(x, 3));
    }

    /** A term that comes to 0 and takes so many steps (1, or 3 and more), of 26 terms at most for 3001. */
    static int ofSteps(WalkedRounds x, int steps) {
        if (steps % 2 == 0) {
            int odd = ofSteps(x, steps - 3);
            return join(x, 10, odd, stateAt(x, number(x, 0)));
        }
        int[] doubled = new int[12];
        doubled[0] = number(x, 0);
        int top = 0;
        for (; (4 << top) - 1 <= steps; top++) doubled[top + 1] = join(x, 10, doubled[top], doubled[top]);
        int t = doubled[top];
        int left = steps - ((2 << top) - 1);
        // A term of 2 to the power of i, less 1, steps, joined to another, adds 2 to the power of i.
        for (int i = top; i > 0; i--) {
            if ((left >> i & 1) != 0) t = join(x, 10, t, doubled[i - 1]);
        }
        return t;
    }

    /** A term of kind 8 that takes 2 to the power of doublings + 1, less 1, steps. */
    static int heavy(WalkedRounds x, int doublings) {
        int t = number(x, 0);
        for (int i = 0; i < doublings; i++) t = join(x, 8, t, t);
        return t;
    }

    static void asks(String what, WalkedRounds x, int t, int node, int arc, long want, int why) {
        is(what, x.ask(t, node, arc), want);
        is(what + ": why()", x.why(), why);
    }

    static void failed(String what, WalkedRounds x, int failure, int act, int node, int arc, int round) {
        is(what + ": failed(0)", x.failed(0), failure);
        is(what + ": failed(1)", x.failed(1), act);
        is(what + ": failed(2)", x.failed(2), node);
        is(what + ": failed(3)", x.failed(3), arc);
        is(what + ": failed(4)", x.failed(4), round);
    }

    static void noFailure(String what, WalkedRounds x) {
        failed(what, x, 0, -1, -1, -1, -1);
    }

    static void states(String what, WalkedRounds x, int k, long... want) {
        for (int i = 0; i < want.length; i++) is(what + ": state(" + i + ", " + k + ")", x.state(i, k), want[i]);
    }

    static void awake(String what, WalkedRounds x, int... want) {
        for (int i = 0; i < want.length; i++) is(what + ": awake(" + i + ")", x.awake(i), want[i]);
    }

    static void along(String what, WalkedRounds x, int... want) {
        is(what + ": count(6)", x.count(6), want.length);
        for (int i = 0; i < want.length; i++) is(what + ": along(" + i + ")", x.along(i), want[i]);
        is(what + ": along() after the last", x.along(want.length), WalkedRounds.OUTSIDE);
    }

    static void messages(String what, WalkedRounds x, long... want) {
        is(what + ": count(6)", x.count(6), want.length);
        for (int i = 0; i < want.length; i++) is(what + ": message(" + i + ")", x.message(i), want[i]);
        is(what + ": message() after the last", x.message(want.length), WalkedRounds.OUTSIDE);
    }

    static void end() {
        System.out.println(asked + " answers, " + wrong + " not as due");
        if (wrong != 0) System.exit(1);
    }
}
