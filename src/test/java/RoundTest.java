/** Rounds, pushed and pulled (promise 9), and promise 15: whole. */
public final class RoundTest {
    private static final int NONE = WalkedRounds.NONE, OUTSIDE = WalkedRounds.OUTSIDE;
    private static final long MIN = Long.MIN_VALUE, MAX = Long.MAX_VALUE;

    public static void main(String[] args) {
        refusals();
        orders();
        foldSorts();
        foldGoesByArcs();
        whoSends();
        whoIsAsked();
        allAtOnce();
        halts();
        wholes();
        tillNoneIsAwake();
        spent();
        Due.end();
    }

    private static void refusals() {
        WalkedRounds x = Due.withNodes(1);
        for (int form : new int[] {-1, 3, Integer.MIN_VALUE, Integer.MAX_VALUE}) {
            Due.is("form " + form, x.run(form, 1), OUTSIDE);
        }
        for (int form = 0; form < 3; form++) {
            Due.is("none", x.run(form, 0), OUTSIDE);
            Due.is("-1", x.run(form, -1), OUTSIDE);
            Due.is("201", x.run(form, 201), OUTSIDE);
        }
        for (int form = 0; form < 2; form++) {
            Due.is("51", x.run(form, 51), OUTSIDE);
            Due.is("200", x.run(form, 200), OUTSIDE);
        }
        Due.is("no round was done", x.count(3), 0);
        Due.is("50 pushed", x.run(0, 50), 50);
        Due.is("50 pulled", x.run(1, 50), 50);
        Due.is("100 rounds", x.count(3), 100);
    }

    /** Arcs whose numbers go against the order of their nodes. */
    private static WalkedRounds crossed() {
        WalkedRounds x = Due.withNodes(3);
        x.arc(2, 0, 10);
        x.arc(1, 2, 20);
        x.arc(0, 2, 30);
        x.arc(2, 1, 40);
        x.arc(0, 0, 50);
        x.act(1, Due.leaf(x, 2));
        x.act(2, Due.leaf(x, 3));
        x.act(3, Due.leaf(x, 4));
        return x;
    }

    private static void orders() {
        WalkedRounds x = crossed();
        Due.is("pushed", x.run(0, 1), 1);
        Due.along("pushed", x, 2, 4, 1, 0, 3);
        Due.messages("pushed", x, 30, 50, 20, 10, 40);
        Due.states("pushed sums", x, 0, 60, 40, 50);
        Due.states("of how many", x, 1, 2, 1, 2);
        Due.states("no act", x, 2, 0, 0, 0);
        WalkedRounds y = crossed();
        Due.is("pulled", y.run(1, 1), 1);
        Due.along("pulled", y, 0, 4, 3, 1, 2);
        Due.messages("pulled", y, 10, 50, 40, 20, 30);
        Due.states("pulled sums", y, 0, 60, 40, 50);
        WalkedRounds z = crossed();
        z.act(1, NONE);
        z.run(1, 1);
        Due.messages("1 without a MESSAGE", z, 1, 1, 1, 1, 1);
    }

    private static void foldSorts() {
        long[] want = {-1, -8, 9, -2};
        for (int sort = 0; sort < 4; sort++) {
            for (int form = 0; form < 2; form++) {
                WalkedRounds x = Due.withNodes(2);
                for (long weight : new long[] {9, -8, -2}) x.arc(0, 1, weight);
                x.put(0, 0, 77);
                x.act(1, Due.leaf(x, 2));
                x.act(2, Due.leaf(x, 3));
                x.act(4, Due.leaf(x, 4));
                x.fold(sort);
                Due.is("round", x.run(form, 1), 1);
                Due.states("fold " + sort, x, 0, 0, want[sort]);
                Due.states("messages", x, 2, 0, 3);
            }
        }
    }

    private static void foldGoesByArcs() {
        for (int form = 0; form < 2; form++) {
            WalkedRounds x = Due.withNodes(3);
            x.arc(2, 0, 5);
            x.arc(0, 0, MAX);
            x.arc(1, 0, -6);
            x.act(1, Due.leaf(x, 2));
            x.act(2, Due.leaf(x, 3));
            x.fold(3);
            Due.is("last", x.run(form, 1), 1);
            Due.states("the last arc's", x, 0, -6);
            x.fold(0);
            Due.is("sum", x.run(form, 1), 0);
            Due.failed("5 and MAX come first", x, 3, 7, 0, NONE, 2);
            Due.states("as before", x, 0, -6);
            WalkedRounds y = Due.withNodes(3);
            y.arc(2, 0, -1);
            y.arc(0, 0, MIN + 1);
            y.arc(1, 0, MAX);
            y.act(1, Due.leaf(y, 2));
            y.act(2, Due.leaf(y, 3));
            Due.is("sum that fits", y.run(form, 1), 1);
            Due.states("at each time", y, 0, -1);
            y.arc(1, 0, MIN);
            y.arc(1, 0, MIN);
            Due.is("too low", y.run(form, 1), 0);
            Due.failed("too low", y, 3, 7, 0, NONE, 2);
        }
    }

    private static void whoSends() {
        for (int form = 0; form < 2; form++) {
            WalkedRounds x = Due.withNodes(3);
            x.arc(0, 1, 0);
            x.arc(0, 2, -1);
            x.arc(1, 2, 1);
            x.arc(2, 2, 7);
            x.wake(1, false);
            x.act(0, Due.leaf(x, 2));
            x.act(1, Due.leaf(x, 6));
            Due.is("round", x.run(form, 1), 1);
            Due.along("SEND is not 0", x, 1, 3);
            Due.messages("arcs from the sender", x, 2, 1);
            Due.is("MESSAGE is asked of what is sent alone", x.count(5), 5);
            Due.awake("node 1 sleeps on", x, 1, 0, 1);
        }
    }

    private static void whoIsAsked() {
        for (int form = 0; form < 2; form++) {
            WalkedRounds x = Due.withNodes(4);
            x.arc(0, 2, 1);
            x.wake(2, false);
            x.wake(3, false);
            for (int i = 0; i < 4; i++) x.put(i, 1, i);
            x.act(2, Due.number(x, 8));
            x.act(3, Due.join(x, 8, Due.state(x, 1), Due.leaf(x, 5)));
            x.act(4, Due.leaf(x, 2));
            x.put(0, 2, 9);
            Due.is("round", x.run(form, 1), 1);
            Due.states("awake, or with a message", x, 0, 8, 8, 8, 0);
            Due.states("of its own", x, 1, 1, 2, 3, 3);
            Due.states("without an arc", x, 2, 0, 0, 0, 0);
            Due.awake("a message wakes", x, 1, 1, 1, 0);
            Due.is("steps", x.count(5), 3 * 5);
            Due.is("next", x.run(form, 1), 1);
            Due.states("round 2", x, 1, 3, 4, 5, 3);
        }
    }

    private static void allAtOnce() {
        for (int form = 0; form < 2; form++) {
            WalkedRounds x = Due.withNodes(2);
            x.arc(0, 1, 0);
            x.arc(1, 0, 0);
            for (int k = 0; k < 3; k++) x.put(0, k, 1 + k);
            for (int k = 0; k < 3; k++) x.put(1, k, 10 * (1 + k));
            x.act(1, Due.state(x, 0));
            x.act(2, Due.leaf(x, 3));
            x.act(3, Due.state(x, 0));
            x.act(4, Due.state(x, 1));
            x.act(5, Due.join(x, 15, Due.state(x, 0), Due.number(x, 5)));
            Due.is("round", x.run(form, 1), 1);
            Due.states("messages of old states", x, 0, 10, 1);
            Due.states("NEW of old states", x, 1, 1, 10);
            Due.states("NEW of old states", x, 2, 2, 20);
            Due.awake("HALT of old states", x, 0, 1);
        }
    }

    private static void halts() {
        for (long halt : new long[] {0, 1, -1, MIN}) {
            for (int form = 0; form < 2; form++) {
                WalkedRounds x = Due.withNodes(3);
                x.arc(0, 1, 0);
                x.wake(1, false);
                x.wake(2, false);
                x.act(5, Due.number(x, halt));
                Due.is("round", x.run(form, 1), 1);
                int on = halt == 0 ? 1 : 0;
                Due.awake("HALT " + halt, x, on, on, 0);
            }
        }
        WalkedRounds x = Due.withNodes(2);
        x.arc(0, 1, 6);
        x.act(1, Due.leaf(x, 2));
        x.act(5, Due.leaf(x, 3));
        Due.is("HALT knows what is FOLDED", x.run(0, 1), 1);
        Due.awake("it was 6 for node 1", x, 1, 0);
    }

    private static void wholes() {
        WalkedRounds x = Due.withNodes(3);
        x.arc(0, 1, 0);
        x.wake(2, false);
        x.put(2, 0, 100);
        x.act(2, Due.number(x, 4));
        x.act(6, Due.state(x, 0));
        Due.is("round", x.run(0, 1), 1);
        Due.is("new states, all nodes", x.whole(), 108);
        x.act(6, Due.join(x, 8, Due.leaf(x, 7), Due.leaf(x, 5)));
        Due.is("round", x.run(1, 1), 1);
        Due.is("of the elder whole, in round 2", x.whole(), 3 * (108 + 2));
        int folded = Due.leaf(x, 3), many = Due.leaf(x, 4);
        x.act(6, Due.join(x, 8, folded, many));
        Due.is("round", x.run(0, 1), 1);
        Due.is("nothing is folded for PART", x.whole(), 0);
        x.act(6, Due.number(x, MAX));
        Due.is("round", x.run(0, 1), 1);
        Due.is("it wraps", x.whole(), MAX - 2);
        x.act(2, Due.leaf(x, 7));
        x.act(6, NONE);
        Due.is("round", x.run(0, 1), 1);
        Due.states("the whole ahead of it", x, 0, MAX - 2, MAX - 2);
        Due.is("0 without PART", x.whole(), 0);
    }

    private static void tillNoneIsAwake() {
        for (int form = 0; form < 2; form++) {
            WalkedRounds x = Due.withNodes(1);
            int one = Due.number(x, 1);
            x.act(2, Due.join(x, 8, Due.state(x, 0), one));
            x.act(5, Due.join(x, 15, Due.number(x, 3), Due.leaf(x, 5)));
            Due.is("rounds till it halts", x.run(form, 50), 4);
            Due.states("4 rounds", x, 0, 4);
            Due.is("none is awake", x.run(form, 50), 0);
            Due.is("4 in all", x.count(3), 4);
            Due.is("4 can be undone", x.count(7), 4);
            Due.noFailure("none is awake", x);
        }
    }

    private static void spent() {
        for (int form = 0; form < 2; form++) {
            WalkedRounds x = Due.withNodes(12);
            int t = x.term(0, 0, 0, 0, 1);
            // 127 + 63 + 31 + 15 + 7 + 1 and 5 that join are 249 steps; a choice asks them twice: 499.
            int[] heavy = new int[7];
            heavy[0] = t;
            for (int i = 1; i < 7; i++) heavy[i] = Due.join(x, 8, heavy[i - 1], heavy[i - 1]);
            int sum = Due.join(x, 8, heavy[6], heavy[5]);
            for (int i : new int[] {4, 3, 2, 0}) sum = Due.join(x, 8, sum, heavy[i]);
            sum = x.term(16, sum, sum, 0, 0);
            Due.is("of 499 steps", x.ask(sum, 0, NONE), 64 + 32 + 16 + 8 + 4 + 1);
            Due.is("of 499 steps", x.count(5), 499);
            for (int i = 6; i < 12; i++) x.wake(i, false);
            x.act(2, sum);
            x.act(4, t);
            Due.is("6 nodes of 500 steps", x.run(form, 1), 1);
            Due.is("3000 steps", x.count(5), 3499);
            Due.is("each round has its own", x.run(form, 2), 2);
            Due.is("3 rounds", x.count(5), 9499);
            x.act(6, t);
            Due.is("a 3001st", x.run(form, 2), 0);
            Due.failed("a 3001st", x, 4, 6, 0, NONE, 4);
            Due.is("3000 are counted", x.count(5), 12499);
            x.act(6, NONE);
            x.act(3, t);
            Due.is("ahead of the end", x.run(form, 1), 0);
            Due.failed("ahead of the end", x, 4, 2, 5, NONE, 4);
        }
    }
}
