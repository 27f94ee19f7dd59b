/** What the document says of NODES, ARCS, THE PROGRAM and FOLD. */
final class ProgramSentences {
    private static final int NONE = WalkedRounds.NONE, UNKNOWN = WalkedRounds.UNKNOWN;
    private static final int OUTSIDE = WalkedRounds.OUTSIDE, FULL_UP = WalkedRounds.FULL_UP;
    private static final long MIN = Long.MIN_VALUE, MAX = Long.MAX_VALUE;

    private ProgramSentences() {
    }

    static void test() {
        twelveNodes();
        nodesAtFirst();
        fortyArcs();
        arcsGo();
        noActsAtFirst();
        actsByNumber();
        sumAtFirst();
        inTheOrderOfArcs();
        sumMustFit();
        otherFolds();
    }

    private static void twelveNodes() {
        Sentence.of(3, "NODES, 12 at most, numbered from 0 on,");
        WalkedRounds x = new WalkedRounds();
        for (int i = 0; i < 12; i++) {
            Due.is("not there yet", x.awake(i), UNKNOWN);
            Due.is("node " + i, x.node(), i);
        }
        for (int i = 0; i < 3; i++) Due.is("the 13th", x.node(), FULL_UP);
        Due.is("12 are there", x.count(1), 12);
        Due.is("node 12", x.state(12, 0), UNKNOWN);
    }

    private static void nodesAtFirst() {
        Sentence.of(3, "have STATES 0 .. 2 (longs, 0 at first), and are AWAKE (at first) or not;");
        WalkedRounds x = new WalkedRounds();
        for (int i = 0; i < 12; i++) {
            x.node();
            Due.is("awake", x.awake(i), 1);
            for (int k = 0; k < 3; k++) Due.is("state " + k, x.state(i, k), 0);
            Due.is("state 3", x.state(i, 3), OUTSIDE);
            Due.is("state -1", x.state(i, -1), OUTSIDE);
            for (int k = 0; k < 3; k++) x.put(i, k, k == 1 ? MIN : MAX);
            for (int k = 0; k < 3; k++) Due.is("a long", x.state(i, k), k == 1 ? MIN : MAX);
            x.wake(i, false);
            Due.is("or not", x.awake(i), 0);
        }
    }

    private static void fortyArcs() {
        Sentence.of(4, "ARCS, 40 at most, likewise,");
        WalkedRounds x = Due.withNodes(12);
        int weight = Due.leaf(x, 2);
        for (int i = 0; i < 40; i++) {
            Due.is("not there yet", x.ask(weight, 0, i), UNKNOWN);
            Due.is("arc " + i, x.arc(i % 12, 11 - i % 12, i), i);
        }
        for (int i = 0; i < 3; i++) Due.is("the 41st", x.arc(0, 0, 0), FULL_UP);
        Due.is("40 are there", x.count(2), 40);
        Due.is("arc 40", x.ask(weight, 0, 40), UNKNOWN);
        Due.is("round", x.run(0, 1), 1);
        Due.is("40 messages", x.count(6), 40);
    }

    private static void arcsGo() {
        Sentence.of(4, "go FROM a node TO a node (perhaps the same), with a WEIGHT.");
        for (int form = 0; form < 3; form++) {
            WalkedRounds x = Due.withNodes(3);
            x.arc(2, 2, MIN);
            x.arc(2, 1, MAX);
            x.wake(0, false);
            x.wake(1, false);
            x.act(1, Due.leaf(x, 2));
            x.act(2, Due.leaf(x, 3));
            Due.is("walk", x.run(form, form == 2 ? 2 : 1), form == 2 ? 2 : 1);
            Due.states("to the same, to the first, from the last", x, 0, 0, MAX, MIN);
        }
        WalkedRounds x = Due.withNodes(1);
        for (int i = 0; i < 3; i++) Due.is("as often as one likes", x.arc(0, 0, 8), i);
    }

    private static void noActsAtFirst() {
        Sentence.of(7, "THE PROGRAM has ACTS, each a TERM or none (at first):");
        WalkedRounds x = Due.withNodes(2);
        x.arc(0, 1, 5);
        for (int k = 0; k < 3; k++) x.put(1, k, 10 + k);
        for (int form = 0; form < 3; form++) {
            Due.is("walk", x.run(form, 1), 1);
            Due.messages("no SEND: it is sent; no MESSAGE: 1", x, 1);
            for (int k = 0; k < 3; k++) Due.is("no NEW: it stays", x.state(1, k), 10 + k);
            Due.awake("no HALT", x, 1, 1);
            Due.is("no PART", x.whole(), 0);
        }
        Due.is("no steps", x.count(5), 0);
        int t = Due.number(x, 3);
        for (int which = 0; which < 7; which++) {
            Due.is("none at first", x.act(which, t), NONE);
            Due.is("a TERM", x.act(which, NONE), t);
            Due.is("none", x.act(which, NONE), NONE);
        }
    }

    private static void actsByNumber() {
        Sentence.of(7, "0 SEND, 1 MESSAGE, 2 to 4 NEW 0 .. 2, 5 HALT, 6 PART;");
        for (int which = 0; which < 7; which++) {
            WalkedRounds x = Due.withNodes(2);
            x.arc(0, 1, 5);
            for (int i = 0; i < 2; i++) for (int k = 0; k < 3; k++) x.put(i, k, 77);
            x.act(which, Due.number(x, which == 0 ? 0 : 8));
            Due.is("round", x.run(0, 1), 1);
            Due.is("SEND of 0", x.count(6), which == 0 ? 0 : 1);
            if (which != 0) Due.messages("MESSAGE", x, which == 1 ? 8 : 1);
            for (int k = 0; k < 3; k++) {
                long want = which == 2 + k ? 8 : 77;
                Due.states("NEW " + k, x, k, want, want);
            }
            int on = which == 5 ? 0 : 1;
            Due.awake("HALT", x, on, on);
            Due.is("PART", x.whole(), which == 6 ? 16 : 0);
        }
    }

    /** Messages of these weights, in this order of arcs, to the last node, each from a node of its own. */
    private static WalkedRounds folding(int sort, long... weights) {
        WalkedRounds x = Due.withNodes(weights.length + 1);
        for (int i = 0; i < weights.length; i++) x.arc(weights.length - 1 - i, weights.length, weights[i]);
        x.act(1, Due.leaf(x, 2));
        x.act(2, Due.leaf(x, 3));
        if (sort != 0) x.fold(sort);
        return x;
    }

    private static void folds(int sort, long want, long... weights) {
        for (int form = 0; form < 2; form++) {
            WalkedRounds x = folding(sort, weights);
            Due.is("round", x.run(form, 1), 1);
            Due.is("fold " + sort, x.state(weights.length, 0), want);
        }
    }

    private static void doesNotFit(long... weights) {
        for (int form = 0; form < 2; form++) {
            WalkedRounds x = folding(0, weights);
            Due.is("round", x.run(form, 1), 0);
            Due.failed("LONG", x, 3, 7, weights.length, NONE, 1);
        }
    }

    private static void sumAtFirst() {
        Sentence.of(8, "and a FOLD (0 at first):");
        folds(0, 12, 3, 4, 5);
        WalkedRounds x = new WalkedRounds();
        Due.is("0 at first", x.fold(1), 0);
    }

    /** Pushed, the nodes send against the order of the arcs. */
    private static void inTheOrderOfArcs() {
        Sentence.of(8, "of messages in the order of their ARCS");
        folds(3, 5, 3, 4, 5);
        folds(0, MAX, MAX, MIN, MAX, 1);
        doesNotFit(1, MAX, MIN, MAX);
        WalkedRounds x = folding(3, 3, 4, 5);
        Due.is("round", x.run(0, 1), 1);
        Due.along("sent the other way round", x, 2, 1, 0);
    }

    private static void sumMustFit() {
        Sentence.of(8, "0 their sum (LONG, if it does not fit in a long at some time),");
        folds(0, MAX, MAX);
        folds(0, MIN, MIN);
        folds(0, MAX, MAX - 1, 1);
        folds(0, MIN, MIN + 1, -1);
        folds(0, MAX, MAX, 0);
        folds(0, -1, MAX, MIN);
        folds(0, -1, MIN, MAX);
        folds(0, 0, 7, -7);
        doesNotFit(MAX, 1);
        doesNotFit(1, MAX);
        doesNotFit(MIN, -1);
        doesNotFit(MIN, MIN);
        doesNotFit(MAX, MAX);
        doesNotFit(MAX, 1, -1);
        doesNotFit(MIN, -1, 1);
        doesNotFit(1, 1, MAX - 1);
        long[] many = new long[11];
        for (int i = 0; i < many.length; i++) many[i] = MAX / 11;
        folds(0, MAX / 11 * 11, many);
    }

    private static void otherFolds() {
        Sentence.of(8, "1 the least, 2 the greatest, 3 the last.");
        long[][] rows = {{9, -8, -2}, {5}, {MIN, MAX}, {MAX, MIN}, {-1, -1}, {3, 3, 1}, {-4, -9, -6}};
        long[] least = {-8, 5, MIN, MIN, -1, 1, -9}, greatest = {9, 5, MAX, MAX, -1, 3, -4};
        for (int i = 0; i < rows.length; i++) {
            folds(1, least[i], rows[i]);
            folds(2, greatest[i], rows[i]);
            folds(3, rows[i][rows[i].length - 1], rows[i]);
        }
        for (int sort = 1; sort < 4; sort++) folds(sort, MAX, MAX, MAX, MAX);
    }
}
