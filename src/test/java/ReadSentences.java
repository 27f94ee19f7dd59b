/** Promises 12 to 19: ask, why, state, whole, awake, along, message, count. */
final class ReadSentences {
    private static final int NONE = WalkedRounds.NONE, UNKNOWN = WalkedRounds.UNKNOWN, OUTSIDE = WalkedRounds.OUTSIDE;
    private static final int LOW = Integer.MIN_VALUE, HIGH = Integer.MAX_VALUE;
    private static final long MIN = Long.MIN_VALUE, MAX = Long.MAX_VALUE;

    private ReadSentences() {
    }

    static void test() {
        ask();
        nothingFolded();
        askFails();
        askSpends();
        askUnknown();
        why();
        whyNot();
        state();
        stateRefused();
        whole();
        awake();
        awakeUnknown();
        along();
        alongAWalk();
        alongOutside();
        undoneOrNot();
        message();
        messageOutside();
        counts();
        countOutside();
    }

    private static void ask() {
        Sentence.of(12, "What a TERM comes to at a NODE, of an ARC or none (NONE),");
        WalkedRounds x = Due.withNodes(12);
        for (int i = 0; i < 40; i++) x.arc(3, 4, MIN + i);
        for (int i = 0; i < 12; i++) x.put(i, 0, i);
        x.wake(11, false);
        int sum = Due.join(x, 8, Due.leaf(x, 2), Due.state(x, 0));
        for (int node : new int[] {0, 3, 4, 11}) {
            Due.asks("of none", x, sum, node, NONE, node, 0);
            Due.asks("of the first", x, sum, node, 0, MIN + node, 0);
            Due.asks("of the last", x, sum, node, 39, MIN + 39 + node, 0);
        }
        String before = Seen.of(x);
        x.ask(sum, 0, 0);
        Due.holds("it changes nothing but STEPS", Seen.of(x).equals(before));
    }

    private static void nothingFolded() {
        Sentence.of(12, "with nothing FOLDED;");
        WalkedRounds x = Due.withNodes(2);
        x.arc(0, 1, 6);
        x.arc(0, 1, 7);
        x.put(0, 0, 1);
        int folded = Due.leaf(x, 3), many = Due.leaf(x, 4), s = Due.state(x, 0);
        // It fails at node 1, to which the messages go.
        int bad = Due.join(x, 9, Due.join(x, 11, s, s), s);
        x.act(1, Due.join(x, 8, Due.join(x, 8, folded, many), Due.number(x, 6)));
        for (int act : new int[] {3, 4, 5, 6}) {
            for (int form = 0; form < 3; form++) {
                Due.is("well", x.run(form, 1), 1);
                Due.asks("after a walk", x, folded, 1, 0, 0, 0);
                Due.asks("after a walk", x, many, 1, 0, 0, 0);
                if (form == 2 && act == 6) continue;
                x.act(act, bad);
                Due.is("fails", x.run(form, 1), 0);
                Due.is("at node 1", x.failed(2), 1);
                Due.asks("after a failure", x, folded, 1, NONE, 0, 0);
                Due.asks("after a failure", x, many, 1, NONE, 0, 0);
                Due.is("fails", x.run(form, 1), 0);
                x.act(act, NONE);
                Due.is("well", x.run(form, 1), 1);
                Due.is("MESSAGE after a failure", x.message(0), 6);
            }
        }
    }

    private static void askFails() {
        Sentence.of(12, "0 if it FAILS");
        WalkedRounds x = Due.withNodes(1);
        x.put(0, 0, 9);
        int nine = Due.state(x, 0), zero = Due.number(x, 0), five = Due.number(x, 5);
        Due.asks("9 / 0", x, Due.join(x, 11, nine, zero), 0, NONE, 0, 1);
        Due.asks("9 % 0", x, Due.join(x, 12, nine, zero), 0, NONE, 0, 1);
        Due.asks("STATE 9", x, Due.stateAt(x, nine), 0, NONE, 0, 2);
        int bad = Due.division(x);
        Due.asks("5 and one that fails", x, Due.join(x, 8, five, bad), 0, NONE, 0, 1);
        Due.asks("one that fails, and 5", x, Due.join(x, 8, bad, five), 0, NONE, 0, 1);
        Due.asks("one that is chosen", x, Due.choose(x, five, bad, five), 0, NONE, 0, 1);
        Due.noFailure("failed() tells of run() alone", x);
    }

    private static void askSpends() {
        Sentence.of(12, "(no more than 3000 STEPS).");
        int[] steps = {1, 2999, 3000, 3001, 3002};
        for (int n : steps) {
            WalkedRounds x = Due.withNodes(1);
            int t = Due.ofSteps(x, n);
            for (int i = 1; i < 4; i++) {
                Due.asks(n + " steps", x, t, 0, NONE, 0, n > 3000 ? 4 : 0);
                Due.is("all that were asked", x.count(5), i * Math.min(n, 3000));
            }
        }
        WalkedRounds x = Due.withNodes(1);
        int t = Due.ofSteps(x, 2999), five = Due.number(x, 5), bad = Due.division(x);
        Due.asks("3001 with 5", x, Due.join(x, 8, t, five), 0, NONE, 0, 4);
        Due.asks("SPENT is told, as the 3001st is not asked", x, Due.join(x, 8, t, bad), 0, NONE, 0, 4);
        Due.asks("what fails earlier is told", x, Due.join(x, 8, bad, t), 0, NONE, 0, 1);
        Due.asks("what is chosen would be the 3001st", x, Due.choose(x, t, bad, five), 0, NONE, 0, 4);
        x.act(2, t);
        Due.is("a round has its own 3000", x.run(0, 1), 1);
        Due.asks("and so has ask()", x, t, 0, NONE, 0, 0);
    }

    private static void askUnknown() {
        Sentence.of(12, "UNKNOWN.");
        WalkedRounds x = new WalkedRounds();
        Due.asks("nothing is there", x, 0, 0, NONE, UNKNOWN, 0);
        x.node();
        Due.asks("no TERM", x, 0, 0, NONE, UNKNOWN, 0);
        int t = Due.number(x, 5);
        Due.asks("no ARC", x, t, 0, 0, UNKNOWN, 0);
        x.arc(0, 0, 0);
        Due.asks("all are there", x, t, 0, 0, 5, 0);
        int steps = x.count(5);
        for (int bad : new int[] {-1, 1, LOW, HIGH}) {
            Due.asks("TERM " + bad, x, bad, 0, 0, UNKNOWN, 0);
            Due.asks("NODE " + bad, x, t, bad, 0, UNKNOWN, 0);
            if (bad != NONE) Due.asks("ARC " + bad, x, t, 0, bad, UNKNOWN, 0);
        }
        Due.asks("ARC -2", x, t, 0, -2, UNKNOWN, 0);
        Due.is("no STEPS", x.count(5), steps);
    }

    private static void why() {
        Sentence.of(13, "How the latest ask() FAILED;");
        WalkedRounds x = Due.withNodes(1);
        int[] bad = {Due.division(x), Due.index(x), Due.ofSteps(x, 3001)};
        int[] how = {1, 2, 4};
        for (int i = 0; i < 6; i++) {
            x.ask(bad[i % 3], 0, NONE);
            Due.is("why()", x.why(), how[i % 3]);
            Due.is("why() once more", x.why(), how[i % 3]);
        }
        x.act(2, bad[0]);
        x.run(0, 1);
        Due.is("a run() that fails leaves it", x.why(), 4);
        x.act(2, NONE);
        x.run(0, 1);
        x.undo();
        x.put(0, 0, 4);
        Due.is("other calls leave it", x.why(), 4);
    }

    private static void whyNot() {
        Sentence.of(13, "0: it did not, or was refused.");
        WalkedRounds x = Due.withNodes(1);
        Due.is("no ask() yet", x.why(), 0);
        int bad = Due.division(x), good = Due.number(x, 5);
        x.act(2, bad);
        x.run(0, 1);
        Due.is("a run() that fails is no ask()", x.why(), 0);
        int[][] calls = {{good, 0, NONE}, {-1, 0, NONE}, {99, 0, NONE}, {bad, 1, NONE}, {bad, -1, NONE}, {bad, 0, 0},
            {bad, 0, -2}};
        for (int[] call : calls) {
            x.ask(bad, 0, NONE);
            Due.is("fails", x.why(), 1);
            Due.is("does not, or is refused", x.ask(call[0], call[1], call[2]), call[0] == good ? 5 : UNKNOWN);
            Due.is("why()", x.why(), 0);
        }
    }

    private static void state() {
        Sentence.of(14, "STATE k of a NODE.");
        WalkedRounds x = Due.withNodes(12);
        for (int i = 0; i < 12; i++) for (int k = 0; k < 3; k++) x.put(i, k, MAX - 3 * i - k);
        for (int i = 0; i < 12; i++) for (int k = 0; k < 3; k++) Due.is("state", x.state(i, k), MAX - 3 * i - k);
        x.act(4, Due.number(x, MIN));
        x.run(0, 1);
        for (int i = 0; i < 12; i++) Due.is("after a round", x.state(i, 2), MIN);
        for (int i = 0; i < 12; i++) Due.is("the one beside it", x.state(i, 1), MAX - 3 * i - 1);
    }

    private static void stateRefused() {
        Sentence.of(14, "UNKNOWN; OUTSIDE.");
        WalkedRounds x = new WalkedRounds();
        Due.is("no nodes", x.state(0, 0), UNKNOWN);
        for (int i = 0; i < 12; i++) x.node();
        for (int bad : new int[] {-1, 12, LOW, HIGH}) {
            Due.is("node " + bad, x.state(bad, 0), UNKNOWN);
            Due.is("UNKNOWN is ahead", x.state(bad, 3), UNKNOWN);
        }
        for (int bad : new int[] {-1, 3, LOW, HIGH}) {
            Due.is("STATE " + bad, x.state(0, bad), OUTSIDE);
            Due.is("STATE " + bad, x.state(11, bad), OUTSIDE);
        }
    }

    private static void whole() {
        Sentence.of(15, "THE WHOLE.");
        WalkedRounds x = Due.withNodes(2);
        Due.is("at first", x.whole(), 0);
        x.act(6, Due.number(x, MAX));
        Due.is("no round yet", x.whole(), 0);
        Due.is("round", x.run(0, 1), 1);
        Due.is("it wraps", x.whole(), -2);
        x.act(6, NONE);
        Due.is("till the next round", x.whole(), -2);
        Due.is("round", x.run(0, 1), 1);
        Due.is("0 without a PART", x.whole(), 0);
        Due.is("undo", x.undo(), 0);
        Due.is("undone", x.whole(), -2);
        x.act(6, Due.join(x, 11, 0, Due.state(x, 0)));
        x.put(0, 0, 1);
        Due.is("node 1 fails", x.run(0, 1), 0);
        Due.is("as it was", x.whole(), -2);
    }

    private static void awake() {
        Sentence.of(16, "Whether a NODE is AWAKE: 1, 0.");
        WalkedRounds x = Due.withNodes(12);
        for (int i = 0; i < 12; i++) Due.is("at first", x.awake(i), 1);
        for (int i = 0; i < 12; i += 11) {
            x.wake(i, false);
            Due.is("asleep", x.awake(i), 0);
        }
        for (int i = 1; i < 11; i++) Due.is("the others", x.awake(i), 1);
        x.arc(1, 11, 0);
        x.act(5, Due.join(x, 15, Due.leaf(x, 4), Due.number(x, 1)));
        Due.is("round", x.run(0, 1), 1);
        for (int i = 0; i < 12; i++) Due.is("only the one with a message", x.awake(i), i == 11 ? 1 : 0);
        Due.is("undo", x.undo(), 0);
        for (int i = 0; i < 12; i++) Due.is("undone", x.awake(i), i == 0 || i == 11 ? 0 : 1);
    }

    private static void awakeUnknown() {
        Sentence.of(16, "UNKNOWN.");
        WalkedRounds x = new WalkedRounds();
        Due.is("no nodes", x.awake(0), UNKNOWN);
        for (int i = 0; i < 12; i++) x.node();
        for (int bad : new int[] {-1, 12, LOW, HIGH}) Due.is("node " + bad, x.awake(bad), UNKNOWN);
    }

    /** Sent by node 0, 1, 2, pulled by 0, 1, 2; arcs against that order. */
    private static WalkedRounds three() {
        WalkedRounds x = Due.withNodes(3);
        x.arc(2, 1, 10);
        x.arc(1, 0, 20);
        x.arc(0, 2, 30);
        x.act(1, Due.join(x, 8, Due.leaf(x, 2), Due.leaf(x, 5)));
        return x;
    }

    private static void along() {
        Sentence.of(17, "Of message i (from 0) of the latest ROUND that was done, in the order in which they were sent,");
        WalkedRounds x = three();
        Due.along("none at first", x);
        Due.is("pushed", x.run(0, 1), 1);
        Due.along("pushed", x, 2, 1, 0);
        Due.is("pulled", x.run(1, 1), 1);
        Due.along("pulled", x, 1, 0, 2);
        Due.messages("of the second round", x, 22, 12, 32);
        int two = Due.number(x, 2), round = Due.leaf(x, 5);
        x.act(2, Due.join(x, 11, two, Due.join(x, 9, Due.number(x, 4), round)));
        Due.is("the third is done, the fourth is not", x.run(0, 9), 1);
        Due.messages("of the third", x, 33, 23, 13);
        x.act(2, NONE);
        x.act(0, Due.number(x, 0));
        Due.is("round", x.run(0, 1), 1);
        Due.along("a round without messages", x);
        x.act(0, NONE);
        for (int i = 0; i < 3; i++) x.wake(i, i == 2);
        Due.is("round", x.run(0, 1), 1);
        Due.along("one is awake", x, 0);
        for (int i = 0; i < 3; i++) x.wake(i, false);
        Due.is("none is awake", x.run(0, 1), 0);
        Due.along("no round: still the latest", x, 0);
    }

    private static void alongAWalk() {
        Sentence.of(17, "or of those that a walk AS THEY COME took, if that was later (and took one): the ARC.");
        WalkedRounds x = three();
        Due.is("round", x.run(0, 1), 1);
        Due.is("walk", x.run(2, 5), 5);
        Due.along("those that were taken", x, 2, 1, 0, 0, 2);
        Due.is("walk", x.run(2, 1), 1);
        Due.along("a later one", x, 2);
        Due.is("round", x.run(1, 1), 1);
        Due.along("a later round", x, 1, 0, 2);
        x.act(0, Due.number(x, 0));
        Due.is("it takes none", x.run(2, 5), 0);
        Due.along("still the round", x, 1, 0, 2);
        x.act(0, NONE);
        int bad = Due.division(x);
        x.act(2, bad);
        Due.is("the first one fails", x.run(2, 5), 0);
        Due.along("still the round", x, 1, 0, 2);
        x.act(2, NONE);
        x.act(1, bad);
        Due.is("ahead of the first", x.run(2, 5), 0);
        Due.along("still the round", x, 1, 0, 2);
        // The second one goes to node 0, and fails there.
        x.act(1, NONE);
        x.put(0, 1, 1);
        x.act(2, Due.join(x, 12, Due.number(x, 7), Due.join(x, 9, Due.state(x, 1), Due.number(x, 1))));
        Due.is("the second one fails", x.run(2, 5), 1);
        Due.along("the one that was done", x, 2);
        x.wake(0, false);
        x.wake(1, false);
        x.wake(2, false);
        Due.is("none is awake", x.run(2, 5), 0);
        Due.along("still the walk", x, 2);
    }

    private static void alongOutside() {
        Sentence.of(17, "OUTSIDE: there are not so many.");
        WalkedRounds x = three();
        Due.is("none at first", x.along(0), OUTSIDE);
        Due.is("round", x.run(0, 1), 1);
        for (int bad : new int[] {-1, 3, 4, 200, LOW, HIGH}) Due.is("along(" + bad + ")", x.along(bad), OUTSIDE);
        Due.is("the last", x.along(2), 0);
        Due.is("200", x.run(2, 200), 200);
        Due.holds("the last", x.along(199) >= 0);
        for (int bad : new int[] {-1, 200, 201, LOW, HIGH}) Due.is("along(" + bad + ")", x.along(bad), OUTSIDE);
        Due.is("round", x.run(0, 1), 1);
        Due.is("no more than the round's", x.along(3), OUTSIDE);
    }

    private static void undoneOrNot() {
        Sentence.of(17, "(Undone or not.)");
        WalkedRounds x = three();
        Due.is("round", x.run(0, 1), 1);
        Due.is("walk", x.run(2, 2), 2);
        Due.is("round", x.run(1, 1), 1);
        for (int left = 2; left >= 0; left--) {
            Due.is("undo", x.undo(), left);
            Due.along("the latest, though undone", x, 1, 0, 2);
            Due.messages("the latest, though undone", x, 22, 12, 32);
        }
        Due.is("undo", x.undo(), NONE);
        Due.along("the latest, though undone", x, 1, 0, 2);
    }

    private static void message() {
        Sentence.of(18, "What that told.");
        WalkedRounds x = Due.withNodes(2);
        for (long weight : new long[] {MIN, MAX, 0, -1}) x.arc(0, 1, weight);
        for (int form = 0; form < 3; form++) {
            x.act(1, NONE);
            Due.is("walk", x.run(form, 1), 1);
            Due.is("1 without a MESSAGE", x.message(0), 1);
            if (form == 0) Due.leaf(x, 2);
            x.act(1, 0);
            Due.is("walk", x.run(form, form == 2 ? 4 : 1), form == 2 ? 4 : 1);
            Due.messages("form " + form, x, MIN, MAX, 0, -1);
        }
        Due.is("undo", x.undo(), 0);
        Due.messages("undone", x, MIN, MAX, 0, -1);
    }

    private static void messageOutside() {
        Sentence.of(18, "OUTSIDE.");
        WalkedRounds x = three();
        Due.is("none at first", x.message(0), OUTSIDE);
        Due.is("round", x.run(0, 1), 1);
        for (int bad : new int[] {-1, 3, 4, 200, LOW, HIGH}) Due.is("message(" + bad + ")", x.message(bad), OUTSIDE);
        Due.is("200", x.run(2, 200), 200);
        Due.holds("the last", x.message(199) > 0);
        for (int bad : new int[] {-1, 200, 201, LOW, HIGH}) Due.is("message(" + bad + ")", x.message(bad), OUTSIDE);
        Due.is("round", x.run(0, 1), 1);
        Due.is("no more than the round's", x.message(3), OUTSIDE);
    }

    private static void counts() {
        Sentence.of(19, "0 TERMS, 1 NODES, 2 ARCS, 3 ROUNDS done, 4 NODES that are AWAKE, 5 STEPS, 6 messages as along()"
            + " tells, 7 how many can be undone.");
        WalkedRounds x = Due.withNodes(12);
        counted(x, 0, 12, 0, 0, 12, 0, 0, 0);
        for (int i = 0; i < 40; i++) x.arc(0, 1, i);
        for (int i = 0; i < 40; i++) Due.number(x, i);
        counted(x, 40, 12, 40, 0, 12, 0, 0, 0);
        x.wake(11, false);
        x.act(6, 3);
        counted(x, 40, 12, 40, 0, 11, 0, 0, 0);
        x.run(0, 9);
        counted(x, 40, 12, 40, 9, 11, 9 * 12, 40, 6);
        x.undo();
        counted(x, 40, 12, 40, 8, 11, 9 * 12, 40, 5);
        x.run(2, 7);
        counted(x, 40, 12, 40, 8, 11, 9 * 12, 7, 6);
        x.ask(0, 0, NONE);
        counted(x, 40, 12, 40, 8, 11, 9 * 12 + 1, 7, 6);
        x.act(5, 1);
        x.run(1, 50);
        counted(x, 40, 12, 40, 9, 0, 9 * 12 + 1 + 11 + 12, 40, 1);
        x.undo();
        counted(x, 40, 12, 40, 8, 11, 9 * 12 + 1 + 11 + 12, 40, 0);
    }

    private static void counted(WalkedRounds x, int... want) {
        for (int what = 0; what < 8; what++) Due.is("count(" + what + ")", x.count(what), want[what]);
    }

    private static void countOutside() {
        Sentence.of(19, "OUTSIDE.");
        WalkedRounds x = new WalkedRounds();
        for (int bad : new int[] {-1, 8, 9, LOW, HIGH}) Due.is("count(" + bad + ")", x.count(bad), OUTSIDE);
        for (int what = 0; what < 8; what++) Due.is("count(" + what + ")", x.count(what), 0);
    }
}
