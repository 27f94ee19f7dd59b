/** Promise 11: failed; and that a round that fails leaves all as it was. */
public final class FailureTest {
    private static final int NONE = WalkedRounds.NONE, OUTSIDE = WalkedRounds.OUTSIDE;

    public static void main(String[] args) {
        eachAct();
        eachFailure();
        theFirstOneIsTold();
        whenItIsForgotten();
        Due.end();
    }

    /** Arcs 0 (1 to 0) and 1 (0 to 1), and a node that sleeps; states 2 tell the nodes apart. */
    private static WalkedRounds pair() {
        WalkedRounds x = Due.withNodes(3);
        x.arc(1, 0, 4);
        x.arc(0, 1, 4);
        x.wake(2, false);
        for (int i = 0; i < 3; i++) x.put(i, 2, 5 + i);
        return x;
    }

    private static void eachAct() {
        for (int act = 0; act < 7; act++) {
            for (int form = 0; form < 2; form++) {
                WalkedRounds x = pair();
                int six = Due.number(x, 6), s = Due.state(x, 2);
                x.act(6, Due.number(x, 3));
                x.act(5, Due.number(x, 0));
                Due.is("well", x.run(form, 2), 2);
                // Fails where state 2 is 6: at node 1.
                x.act(act, Due.join(x, 12, six, Due.join(x, 9, s, six)));
                if (act != 5) x.act(5, Due.number(x, 1));
                if (act != 2) x.act(2, Due.number(x, 77));
                Due.is("fails", x.run(form, 3), 0);
                int arc = act < 2 ? 0 : NONE;
                Due.failed("act " + act, x, 1, act, 1, arc, 3);
                Due.is("whole", x.whole(), 9);
                Due.states("as it was", x, 0, 0, 0, 0);
                Due.states("as it was", x, 2, 5, 6, 7);
                Due.awake("as it was", x, 1, 1, 0);
                Due.is("rounds", x.count(3), 2);
                if (form == 0) Due.along("of the last that was done", x, 1, 0);
                else Due.along("of the last that was done", x, 0, 1);
            }
        }
    }

    private static void eachFailure() {
        for (int form = 0; form < 2; form++) {
            WalkedRounds x = pair();
            x.act(4, x.term(17, Due.state(x, 2), 0, 0, 0));
            Due.is("INDEX", x.run(form, 1), 0);
            Due.failed("INDEX", x, 2, 4, 0, NONE, 1);
            x.act(4, NONE);
            int heavy = Due.heavy(x, 11);
            x.act(3, heavy);
            Due.is("SPENT", x.run(form, 1), 0);
            Due.failed("SPENT", x, 4, 3, 0, NONE, 1);
            x.act(3, NONE);
            x.act(1, Due.number(x, Long.MAX_VALUE));
            x.arc(0, 1, 0);
            Due.is("LONG, though FOLDED is not asked for", x.run(form, 1), 0);
            Due.failed("LONG", x, 3, 7, 1, NONE, 1);
        }
    }

    private static void theFirstOneIsTold() {
        WalkedRounds x = pair();
        int zero = Due.number(x, 0);
        int division = Due.join(x, 11, zero, zero);
        int index = x.term(17, Due.number(x, 3), 0, 0, 0);
        x.act(2, index);
        x.act(5, division);
        Due.is("NEW ahead of HALT", x.run(0, 1), 0);
        Due.failed("NEW ahead of HALT", x, 2, 2, 0, NONE, 1);
        x.act(0, Due.join(x, 15, index, zero));
        x.act(1, division);
        x.run(0, 1);
        Due.failed("SEND ahead of MESSAGE, node 0 first", x, 2, 0, 0, 1, 1);
        x.run(1, 1);
        Due.failed("pulled: arc 0 first, asked of node 1", x, 2, 0, 1, 0, 1);
        x.act(0, zero);
        x.run(1, 1);
        Due.failed("MESSAGE is not asked", x, 2, 2, 0, NONE, 1);
    }

    private static void whenItIsForgotten() {
        WalkedRounds x = pair();
        int ten = Due.number(x, 10), r = Due.leaf(x, 5);
        x.act(3, Due.join(x, 11, ten, Due.join(x, 9, Due.number(x, 4), r)));
        Due.is("three", x.run(0, 9), 3);
        Due.failed("the 4th", x, 1, 3, 0, NONE, 4);
        Due.is("refused", x.run(0, 0), OUTSIDE);
        Due.is("refused", x.run(3, 1), OUTSIDE);
        Due.failed("refused runs change nothing", x, 1, 3, 0, NONE, 4);
        x.ask(0, 0, NONE);
        x.undo();
        Due.failed("nor ask() and undo()", x, 1, 3, 0, NONE, 4);
        for (int what : new int[] {-1, 5, Integer.MIN_VALUE, Integer.MAX_VALUE}) {
            Due.is("failed(" + what + ")", x.failed(what), OUTSIDE);
        }
        Due.is("one more", x.run(0, 1), 1);
        Due.noFailure("the latest had none", x);
        Due.is("fails", x.run(0, 1), 0);
        x.wake(0, false);
        x.wake(1, false);
        Due.failed("stays", x, 1, 3, 0, NONE, 4);
        Due.is("none is awake", x.run(2, 1), 0);
        Due.noFailure("the latest had none", x);
        for (int what : new int[] {-1, 5}) Due.is("failed(" + what + ")", x.failed(what), OUTSIDE);
    }
}
