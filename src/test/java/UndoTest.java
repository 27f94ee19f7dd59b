/** Promise 10: undo. */
public final class UndoTest {
    private static final int NONE = WalkedRounds.NONE;

    public static void main(String[] args) {
        givesBack();
        atMostSix();
        failuresCostNothing();
        emptyWalksCostNothing();
        whatEndsIt();
        whatDoesNotEndIt();
        goneOnWith();
        Due.end();
    }

    /** One node that counts rounds in state 0, messages in state 1; the whole is their sum. */
    private static WalkedRounds counter() {
        WalkedRounds x = Due.withNodes(2);
        x.arc(0, 1, 1);
        int one = Due.number(x, 1);
        x.act(2, Due.join(x, 8, Due.state(x, 0), one));
        x.act(3, Due.join(x, 8, Due.state(x, 1), Due.leaf(x, 4)));
        x.act(6, Due.state(x, 0));
        x.wake(1, false);
        return x;
    }

    private static void givesBack() {
        WalkedRounds x = counter();
        Due.is("round", x.run(0, 1), 1);
        Due.is("whole", x.whole(), 2);
        Due.awake("woken", x, 1, 1);
        Due.is("walk", x.run(2, 9), 1);
        Due.is("two can be", x.count(7), 2);
        Due.states("after", x, 0, 1, 2);
        int steps = x.count(5);
        Due.is("undo the walk", x.undo(), 1);
        Due.states("ahead of it", x, 0, 1, 1);
        Due.states("ahead of it", x, 1, 0, 1);
        Due.is("rounds", x.count(3), 1);
        Due.is("undo the round", x.undo(), 0);
        Due.states("as it was", x, 0, 0, 0);
        Due.states("as it was", x, 1, 0, 0);
        Due.awake("as it was", x, 1, 0);
        Due.is("whole as it was", x.whole(), 0);
        Due.is("no rounds", x.count(3), 0);
        Due.is("none can be", x.undo(), NONE);
        Due.is("none can be", x.count(7), 0);
        Due.is("steps stay", x.count(5), steps);
        Due.along("undone or not", x, 0);
    }

    private static void atMostSix() {
        WalkedRounds x = counter();
        Due.is("50 rounds", x.run(0, 50), 50);
        Due.is("6 of them", x.count(7), 6);
        for (int left = 5; left >= 0; left--) {
            Due.is("undo", x.undo(), left);
            Due.states("back", x, 0, 44 + left, 44 + left);
            Due.is("rounds", x.count(3), 44 + left);
            Due.is("whole", x.whole(), 2 * (44 + left));
        }
        Due.is("no more", x.undo(), NONE);
        Due.is("44 rounds", x.count(3), 44);
        for (int i = 0; i < 8; i++) Due.is("walk", x.run(2, 1), 1);
        for (int left = 5; left >= 0; left--) {
            Due.is("undo", x.undo(), left);
            Due.states("back", x, 0, 44, 44 + 2 + left);
        }
        Due.is("no more", x.undo(), NONE);
    }

    private static void failuresCostNothing() {
        WalkedRounds x = Due.withNodes(1);
        x.arc(0, 0, 0);
        int one = Due.number(x, 1), ten = Due.number(x, 10), s = Due.state(x, 0);
        int bad = Due.join(x, 11, one, Due.join(x, 9, ten, s));
        x.act(2, Due.join(x, 8, s, one));
        x.act(6, bad);
        Due.is("9 rounds", x.run(0, 20), 9);
        Due.failed("PART of the 10th", x, 1, 6, 0, NONE, 10);
        Due.is("again", x.run(1, 20), 0);
        Due.is("six can be", x.count(7), 6);
        Due.states("nine", x, 0, 9);
        for (int left = 5; left >= 0; left--) Due.is("undo", x.undo(), left);
        Due.states("three", x, 0, 3);
        Due.is("undo does not tell of failures", x.failed(0), 1);
        x.act(6, NONE);
        x.act(1, bad);
        Due.is("walk", x.run(2, 200), 6);
        Due.is("one can be", x.count(7), 1);
        Due.is("failed(1)", x.failed(1), 1);
        Due.states("nine", x, 0, 9);
        Due.is("undo", x.undo(), 0);
        Due.states("three", x, 0, 3);
    }

    private static void emptyWalksCostNothing() {
        WalkedRounds x = Due.withNodes(1);
        int one = Due.number(x, 1);
        x.act(2, Due.leaf(x, 5));
        x.act(5, Due.join(x, 15, one, Due.leaf(x, 5)));
        Due.is("two", x.run(0, 9), 2);
        Due.is("none is awake", x.run(0, 9), 0);
        Due.is("none is sent", x.run(2, 9), 0);
        Due.is("two can be", x.count(7), 2);
        Due.is("undo", x.undo(), 1);
        Due.awake("awake again", x, 1);
        Due.states("of round 1", x, 0, 1);
    }

    private static void whatEndsIt() {
        for (int call = 0; call < 12; call++) {
            WalkedRounds x = counter();
            x.run(0, 3);
            switch (call) {
                case 0: x.node(); break;
                case 1: x.arc(0, 0, 1); break;
                case 2: x.put(0, 0, x.state(0, 0)); break;
                case 3: x.wake(0, true); break;
                case 4: x.wake(0, false); break;
                case 5: x.act(0, NONE); break;
                case 6: x.act(0, 0); break;
                case 7: x.fold(0); break;
                case 8: x.fold(2); break;
                case 9: x.put(1, 2, 5); break;
                case 10: x.act(6, NONE); break;
                default: x.wake(1, true); break;
            }
            Due.is("ended by " + call, x.count(7), 0);
            Due.is("ended by " + call, x.undo(), NONE);
            Due.is("rounds stay", x.count(3), 3);
            x.run(1, 1);
            Due.is("those since", x.count(7), x.count(3) - 3);
        }
    }

    private static void whatDoesNotEndIt() {
        WalkedRounds x = counter();
        for (int i = 2; i < 12; i++) x.node();
        for (int i = 1; i < 40; i++) x.arc(0, 1, 1);
        x.run(0, 3);
        x.node();
        x.arc(0, 1, 0);
        x.arc(0, 12, 0);
        x.put(12, 0, 0);
        x.put(0, 3, 0);
        x.wake(12, true);
        x.act(7, NONE);
        x.act(0, 40);
        x.fold(4);
        x.run(0, 0);
        x.run(3, 1);
        Due.number(x, 1);
        x.ask(0, 0, NONE);
        for (int i = 0; i < 8; i++) x.count(i);
        x.state(0, 0);
        Due.is("three can be", x.count(7), 3);
        Due.is("undo", x.undo(), 2);
    }

    private static void goneOnWith() {
        WalkedRounds x = counter();
        x.run(0, 8);
        for (int i = 0; i < 4; i++) x.undo();
        Due.is("4 rounds", x.count(3), 4);
        Due.is("3 more", x.run(1, 3), 3);
        Due.is("5 can be", x.count(7), 5);
        for (int left = 4; left >= 0; left--) {
            Due.is("undo", x.undo(), left);
            Due.states("back", x, 0, 2 + left, 2 + left);
        }
        Due.is("no more", x.undo(), NONE);
    }
}
