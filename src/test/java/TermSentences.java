/** What the document says of the object, of TERMS, STEPS and FAILURES. */
final class TermSentences {
    private static final int NONE = WalkedRounds.NONE, UNKNOWN = WalkedRounds.UNKNOWN;
    private static final int OUTSIDE = WalkedRounds.OUTSIDE, FULL_UP = WalkedRounds.FULL_UP;
    private static final long MIN = Long.MIN_VALUE, MAX = Long.MAX_VALUE;

    private TermSentences() {
    }

    static void test() {
        story();
        callsOfAnObject();
        fortyTerms();
        askedAt();
        wraps();
        failsWithAPart();
        leaves();
        sums();
        divisions();
        comparisons();
        choice();
        stateAt();
        partsInOrder();
        steps();
        failures();
    }

    private static void story() {
        Sentence.of(9, "Programs of nodes that are walked in rounds: messages along arcs, folded, states anew, nodes"
            + " that halt and wake, a whole that is summed; pushed, pulled, or as they come; a node that fails leaves"
            + " the round as it was, and is told; rounds undone and gone on with.");
        WalkedRounds x = Due.withNodes(3);
        x.arc(0, 1, 4);
        x.arc(1, 2, 5);
        int folded = Due.leaf(x, 3), weight = Due.leaf(x, 2), s = Due.state(x, 0);
        x.act(1, Due.join(x, 8, weight, s));
        x.act(2, Due.join(x, 8, s, folded));
        x.act(6, s);
        Due.is("pushed", x.run(0, 1), 1);
        Due.states("pushed", x, 0, 0, 4, 5);
        Due.is("whole", x.whole(), 9);
        Due.is("pulled", x.run(1, 1), 1);
        Due.states("pulled", x, 0, 0, 8, 14);
        Due.is("whole", x.whole(), 22);
        Due.is("as they come", x.run(2, 3), 3);
        Due.states("as they come", x, 0, 0, 12, 14 + 13 + 17);
        Due.is("undone", x.undo(), 2);
        Due.is("undone", x.undo(), 1);
        Due.states("undone", x, 0, 0, 4, 5);
        Due.is("gone on with", x.run(0, 1), 1);
        Due.states("gone on with", x, 0, 0, 8, 14);
        x.act(6, Due.division(x));
        Due.is("fails", x.run(0, 1), 0);
        Due.failed("is told", x, 1, 6, 0, NONE, 3);
        Due.states("as it was", x, 0, 0, 8, 14);
    }

    private static void callsOfAnObject() {
        Sentence.of(1, "An object is used for at most 512 calls after it has been made; what later calls answer is free.");
        WalkedRounds x = Due.withNodes(1);
        int t = Due.ofSteps(x, 3000);
        x.act(2, t);
        int calls = 1 + (t + 1) + 1, runs = 0;
        for (; calls < 508; calls++) {
            Due.is("call " + calls, x.run(runs % 2, 50), 50);
            runs++;
        }
        Due.is("call 509: count(3)", x.count(3), runs * 50);
        Due.is("call 510: count(5)", x.count(5), runs * 50 * 3000);
        Due.is("call 511: failed(0)", x.failed(0), 0);
        Due.is("call 512: undo()", x.undo(), 5);
    }

    private static void fortyTerms() {
        Sentence.of(2, "TERMS, 40 at most, numbered from 0 on, have parts a, b, c, elder TERMS, and a number n.");
        WalkedRounds x = Due.withNodes(1);
        Due.is("no elder one: a", x.term(17, 0, 0, 0, 0), UNKNOWN);
        Due.is("term 0", x.term(0, 0, 0, 0, 31), 0);
        for (int i = 1; i < 40; i++) {
            Due.is("a of its own number", x.term(16, i, 0, 0, 0), UNKNOWN);
            Due.is("b of its own number", x.term(16, 0, i, 0, 0), UNKNOWN);
            Due.is("c of its own number", x.term(16, 0, 0, i, 0), UNKNOWN);
            Due.is("a term of the youngest and the eldest", x.term(16, i - 1, i - 1, 0, i), i);
        }
        Due.is("the 41st", x.term(0, 0, 0, 0, 0), FULL_UP);
        Due.is("40 are there", x.count(0), 40);
        Due.asks("the number n", x, 0, 0, NONE, 31, 0);
        fortyDeep();
    }

    /** Forty terms, each a part of the next: its a, its b, or, of kind 16, its b or its c. */
    private static void fortyDeep() {
        for (int way = 0; way < 4; way++) {
            WalkedRounds x = Due.withNodes(2);
            x.arc(0, 1, 0);
            int t = Due.number(x, way == 3 ? 0 : 7);
            for (int i = 1; i < 40; i++) {
                if (way == 0) t = Due.join(x, 13, t, 0);
                if (way == 1) t = Due.join(x, 13, 0, t);
                if (way == 2) t = Due.choose(x, 0, t, 0);
                if (way == 3) t = Due.choose(x, 0, 0, t);
            }
            long want = way == 3 ? 0 : 7;
            Due.asks("40 deep, way " + way, x, t, 0, NONE, want, 0);
            Due.is("each, and a part of each but one", x.count(5), 79);
            x.act(1, t);
            x.act(4, t);
            for (int form = 0; form < 3; form++) {
                Due.is("40 deep, form " + form, x.run(form, 1), 1);
                Due.messages("40 deep, form " + form, x, want);
                Due.is("40 deep, form " + form, x.state(1, 2), want);
            }
        }
    }

    private static void askedAt() {
        Sentence.of(12, "Each is asked at a NODE, perhaps of an ARC, with what is FOLDED;");
        WalkedRounds x = Due.withNodes(12);
        for (int i = 0; i < 12; i++) x.put(i, 2, 100 + i);
        for (int i = 0; i < 40; i++) x.arc(0, 11, 1000 + i);
        int both = Due.join(x, 8, Due.state(x, 2), Due.leaf(x, 2));
        for (int node = 0; node < 12; node++) {
            Due.asks("at node " + node, x, both, node, NONE, 100 + node, 0);
            Due.asks("at node " + node + " of the last arc", x, both, node, 39, 1139 + node, 0);
        }
        x.act(2, Due.join(x, 8, Due.leaf(x, 3), both));
        Due.is("round", x.run(0, 1), 1);
        Due.is("with 40 messages of 1 FOLDED, of no ARC", x.state(11, 0), 40 + 111);
        Due.is("with nothing FOLDED", x.state(0, 0), 100);
    }

    private static void joined(int kind, long a, long b, long want) {
        joined(kind, a, b, want, 0);
    }

    private static void joined(int kind, long a, long b, long want, int why) {
        WalkedRounds x = Due.withNodes(1);
        int t = Due.join(x, kind, Due.number(x, a), Due.number(x, b));
        Due.asks("kind " + kind + " of " + a + " and " + b, x, t, 0, NONE, want, why);
        Due.is("three steps", x.count(5), 3);
    }

    private static void wraps() {
        Sentence.of(12, "it comes to a long (all wrap)");
        joined(8, MAX, 1, MIN);
        joined(8, MIN, -1, MAX);
        joined(9, MIN, 1, MAX);
        joined(9, 0, MIN, MIN);
        joined(10, MAX, 2, -2);
        joined(10, MIN, -1, MIN);
        joined(10, 1L << 32, 1L << 32, 0);
        joined(11, MIN, -1, MIN);
        joined(12, MIN, -1, 0);
        joined(8, 1L << 40, 1, (1L << 40) + 1);
    }

    private static void failsWithAPart() {
        Sentence.of(12, "or FAILS (as soon as a part does).");
        for (int kind = 8; kind <= 17; kind++) {
            WalkedRounds x = Due.withNodes(1);
            int bad = Due.division(x), two = Due.number(x, 2), index = Due.index(x);
            int before = x.count(5);
            Due.asks("a of kind " + kind, x, x.term(kind, bad, index, index, 0), 0, NONE, 0, 1);
            Due.is("no more is asked", x.count(5), before + 4);
            if (kind == 17) continue;
            before = x.count(5);
            Due.asks("b of kind " + kind, x, x.term(kind, two, bad, index, 0), 0, NONE, 0, 1);
            Due.is("no more is asked", x.count(5), before + 5);
        }
    }

    private static void leaves() {
        Sentence.of(2, "KINDS: 0 n.");
        for (long n : new long[] {0, -1, 1, MIN, MAX, 1L << 32}) {
            WalkedRounds x = Due.withNodes(1);
            Due.asks("the number " + n, x, Due.number(x, n), 0, NONE, n, 0);
        }
        kindState();
        kindWeight();
        kindFolded();
        kindMessages();
        kindRounds();
        kindArcs();
        kindWhole();
    }

    private static void kindState() {
        Sentence.of(2, "1 STATE n (n 0 .. 2) of the NODE.");
        WalkedRounds x = Due.withNodes(12);
        for (int i = 0; i < 12; i++) for (int k = 0; k < 3; k++) x.put(i, k, MAX - 10 * i - k);
        for (long n : new long[] {-1, 3, 1L << 32, (1L << 32) + 1, MIN, MAX}) {
            Due.is("STATE " + n, x.term(1, 0, 0, 0, n), OUTSIDE);
        }
        for (int k = 0; k < 3; k++) {
            int t = x.term(1, 0, 0, 0, k);
            for (int i = 0; i < 12; i++) Due.asks("STATE " + k + " of " + i, x, t, i, NONE, MAX - 10 * i - k, 0);
        }
    }

    private static void kindWeight() {
        Sentence.of(2, "2 the ARC's WEIGHT (0 without one).");
        WalkedRounds x = Due.withNodes(2);
        long[] weights = {MIN, MAX, 0, -1};
        for (long weight : weights) x.arc(0, 1, weight);
        int t = Due.leaf(x, 2);
        for (int i = 0; i < 4; i++) Due.asks("of ARC " + i, x, t, 0, i, weights[i], 0);
        Due.asks("of none", x, t, 0, NONE, 0, 0);
        for (int act = 2; act < 7; act++) x.act(act, act < 5 ? t : NONE);
        for (int k = 0; k < 3; k++) x.put(1, k, 9);
        Due.is("round", x.run(0, 1), 1);
        for (int k = 0; k < 3; k++) Due.is("NEW " + k + " has no ARC", x.state(1, k), 0);
    }

    private static void kindFolded() {
        Sentence.of(2, "3 FOLDED (0, where nothing is).");
        for (int sort = 0; sort < 4; sort++) {
            WalkedRounds x = Due.withNodes(2);
            x.arc(0, 1, -6);
            x.fold(sort);
            int folded = Due.leaf(x, 3);
            x.put(0, 0, 5);
            x.act(1, Due.join(x, 8, Due.leaf(x, 2), folded));
            x.act(2, folded);
            x.act(6, folded);
            for (int form = 0; form < 2; form++) {
                Due.is("round", x.run(form, 1), 1);
                Due.states("no message, and one", x, 0, 0, -6);
                Due.messages("nothing for MESSAGE", x, -6);
                Due.is("nothing for PART", x.whole(), 0);
                Due.asks("nothing for ask()", x, folded, 1, NONE, 0, 0);
            }
        }
    }

    private static void kindMessages() {
        Sentence.of(2, "4 of how many messages.");
        WalkedRounds x = Due.withNodes(3);
        for (int i = 0; i < 39; i++) x.arc(0, 1, 0);
        x.arc(0, 2, 0);
        int many = Due.leaf(x, 4);
        x.act(1, many);
        x.act(2, many);
        x.act(6, many);
        for (int form = 0; form < 2; form++) {
            Due.is("round", x.run(form, 1), 1);
            Due.states("none, 39, one", x, 0, 0, 39, 1);
            Due.is("none for MESSAGE", x.message(39), 0);
            Due.is("none for PART", x.whole(), 0);
        }
        Due.is("as they come", x.run(2, 40), 40);
        Due.states("one alone", x, 0, 0, 1, 1);
        Due.asks("none for ask()", x, many, 1, NONE, 0, 0);
    }

    private static void kindRounds() {
        Sentence.of(2, "5 how many ROUNDS were done, and 1.");
        WalkedRounds x = Due.withNodes(1);
        int t = Due.leaf(x, 5), s = Due.state(x, 0);
        Due.asks("at first", x, t, 0, NONE, 1, 0);
        x.act(2, t);
        x.act(6, t);
        Due.is("round", x.run(0, 1), 1);
        Due.is("NEW in the first", x.state(0, 0), 1);
        Due.is("PART in the first", x.whole(), 1);
        Due.is("rounds", x.run(0, 49), 49);
        Due.is("NEW in the 50th", x.state(0, 0), 50);
        Due.asks("after 50", x, t, 0, NONE, 51, 0);
        Due.is("undo", x.undo(), 5);
        Due.asks("one undone", x, t, 0, NONE, 50, 0);
        x.act(3, Due.join(x, 11, s, Due.number(x, 0)));
        Due.is("fails", x.run(0, 1), 0);
        Due.asks("one that was not done", x, t, 0, NONE, 50, 0);
    }

    private static void kindArcs() {
        Sentence.of(2, "6 how many ARCS go from the NODE.");
        WalkedRounds x = Due.withNodes(3);
        int t = Due.leaf(x, 6);
        Due.asks("none", x, t, 0, NONE, 0, 0);
        x.arc(1, 0, 0);
        Due.asks("one that comes to it", x, t, 0, NONE, 0, 0);
        x.arc(0, 0, 0);
        Due.asks("a loop is one", x, t, 0, NONE, 1, 0);
        for (int i = 2; i < 40; i++) x.arc(2, 1, 0);
        Due.is("refused", x.arc(2, 1, 0), FULL_UP);
        Due.asks("38", x, t, 2, NONE, 38, 0);
        x.wake(2, false);
        Due.asks("asleep or not", x, t, 2, NONE, 38, 0);
        Due.asks("of another's ARC", x, t, 0, 39, 1, 0);
    }

    private static void kindWhole() {
        Sentence.of(2, "7 THE WHOLE.");
        WalkedRounds x = Due.withNodes(2);
        int t = Due.leaf(x, 7);
        Due.asks("at first", x, t, 0, NONE, 0, 0);
        x.act(2, t);
        x.act(6, Due.number(x, MIN / 2));
        Due.is("round", x.run(0, 1), 1);
        Due.asks("the least long", x, t, 1, NONE, MIN, 0);
        Due.is("NEW saw the elder one", x.state(1, 0), 0);
        Due.is("round", x.run(0, 1), 1);
        Due.is("NEW sees it", x.state(1, 0), MIN);
        Due.is("undo", x.undo(), 1);
        Due.is("undo", x.undo(), 0);
        Due.asks("undone", x, t, 0, NONE, 0, 0);
    }

    private static void sums() {
        Sentence.of(2, "8 a + b.");
        joined(8, 3, 4, 7);
        joined(8, MAX, MIN, -1);
        joined(8, MIN, MIN, 0);
        joined(8, MAX, MAX, -2);
        Sentence.of(2, "9 a - b.");
        joined(9, 3, 4, -1);
        joined(9, MIN, MAX, 1);
        joined(9, MAX, -1, MIN);
        joined(9, MIN, MIN, 0);
        Sentence.of(2, "10 a b.");
        joined(10, -3, 4, -12);
        joined(10, MAX, MAX, 1);
        joined(10, MIN, 2, 0);
        joined(10, MIN, 1, MIN);
        joined(10, 0, MIN, 0);
    }

    private static void divisions() {
        Sentence.of(2, "11 a / b.");
        joined(11, 7, 2, 3);
        joined(11, -7, 2, -3);
        joined(11, 7, -2, -3);
        joined(11, -7, -2, 3);
        joined(11, 1, MAX, 0);
        joined(11, MIN, 1, MIN);
        joined(11, MIN, -1, MIN);
        joined(11, 0, -5, 0);
        joined(11, 0, 0, 0, 1);
        joined(11, MIN, 0, 0, 1);
        Sentence.of(2, "12 a % b (both as the language does; DIVISION).");
        joined(12, 7, 2, 1);
        joined(12, -7, 2, -1);
        joined(12, 7, -2, 1);
        joined(12, -7, -2, -1);
        joined(12, MIN, MAX, -1);
        joined(12, MIN, -1, 0);
        joined(12, 0, 0, 0, 1);
        joined(12, MAX, 0, 0, 1);
    }

    private static void comparisons() {
        Sentence.of(2, "13 the lesser, 14 the greater of a and b.");
        for (long[] pair : new long[][] {{3, 4}, {-1, 0}, {MIN, MAX}, {5, 5}, {-1L << 32, 1}}) {
            joined(13, pair[0], pair[1], pair[0]);
            joined(13, pair[1], pair[0], pair[0]);
            joined(14, pair[0], pair[1], pair[1]);
            joined(14, pair[1], pair[0], pair[1]);
        }
        Sentence.of(2, "15 1, if a is below b, else 0.");
        joined(15, 3, 4, 1);
        joined(15, 4, 4, 0);
        joined(15, 5, 4, 0);
        joined(15, MIN, MAX, 1);
        joined(15, MAX, MIN, 0);
        joined(15, MIN, MIN, 0);
        joined(15, -1, 0, 1);
    }

    private static void choice() {
        Sentence.of(2, "16 b, if a is not 0, else c (the other one is not asked).");
        for (long a : new long[] {1, -1, 0, MIN, MAX, 1L << 32}) {
            WalkedRounds x = Due.withNodes(1);
            int first = Due.number(x, a), good = Due.number(x, 5), bad = Due.division(x);
            int t = a != 0 ? Due.choose(x, first, good, bad) : Due.choose(x, first, bad, good);
            Due.asks("a is " + a, x, t, 0, NONE, 5, 0);
            Due.is("three steps", x.count(5), 3);
            int other = a != 0 ? Due.choose(x, first, bad, good) : Due.choose(x, first, good, bad);
            Due.asks("the one that is asked fails", x, other, 0, NONE, 0, 1);
        }
    }

    private static void stateAt() {
        Sentence.of(2, "17 STATE i, i being a as an int (INDEX, if that is not 0 .. 2).");
        long[] at = {0, 1, 2, 1L << 32, (1L << 32) + 2, MIN, -1L << 32, -1, 3, 1L << 31, MAX, (1L << 32) - 1};
        long[] want = {70, 71, 72, 70, 72, 70, 70, 0, 0, 0, 0, 0};
        for (int i = 0; i < at.length; i++) {
            WalkedRounds x = Due.withNodes(2);
            for (int k = 0; k < 3; k++) x.put(1, k, 70 + k);
            int t = Due.stateAt(x, Due.number(x, at[i]));
            Due.asks("i is " + at[i], x, t, 1, NONE, want[i], want[i] == 0 ? 2 : 0);
            x.act(4, t);
            Due.is("in a round", x.run(0, 1), want[i] == 0 ? 0 : 1);
            Due.is("in a round", x.failed(0), want[i] == 0 ? 2 : 0);
        }
    }

    private static void partsInOrder() {
        Sentence.of(2, "(Parts in order.)");
        for (int kind = 8; kind < 16; kind++) {
            WalkedRounds x = Due.withNodes(1);
            int division = Due.division(x), index = Due.index(x);
            Due.asks("a fails first", x, Due.join(x, kind, division, index), 0, NONE, 0, 1);
            Due.asks("a fails first", x, Due.join(x, kind, index, division), 0, NONE, 0, 2);
        }
        WalkedRounds x = Due.withNodes(1);
        int division = Due.division(x), index = Due.index(x);
        Due.asks("a ahead of b and c", x, Due.choose(x, index, division, division), 0, NONE, 0, 2);
        Due.asks("a ahead of INDEX", x, Due.stateAt(x, division), 0, NONE, 0, 1);
    }

    private static void steps() {
        Sentence.of(19, "Each TERM that is asked, parts too, each time, is a STEP.");
        WalkedRounds x = Due.withNodes(1);
        int one = Due.number(x, 1), two = Due.join(x, 8, one, one), four = Due.join(x, 8, two, two);
        int[] terms = {one, two, four, Due.choose(x, one, two, four), Due.stateAt(x, one), Due.choose(x, two, two, one)};
        int[] want = {1, 3, 7, 5, 2, 7};
        int all = 0;
        for (int i = 0; i < terms.length; i++) {
            x.ask(terms[i], 0, NONE);
            all += want[i];
            Due.is("after term " + terms[i], x.count(5), all);
        }
        x.ask(99, 0, NONE);
        Due.is("a refused one asks nothing", x.count(5), all);
        x.arc(0, 0, 0);
        for (int act = 0; act < 7; act++) {
            if (act != 5) x.act(act, two);
        }
        x.act(5, Due.stateAt(x, Due.number(x, 0)));
        Due.is("round", x.run(0, 1), 1);
        Due.is("each ACT once", x.count(5), all + 6 * 3 + 2);
    }

    private static void failures() {
        Sentence.of(11, "FAILURES: 1 DIVISION, 2 INDEX, 3 LONG, 4 SPENT, 5 FULL.");
        WalkedRounds x = Due.withNodes(1);
        int[] bad = {Due.division(x), Due.index(x)};
        for (int i = 0; i < 2; i++) {
            x.act(2, bad[i]);
            Due.is("round", x.run(0, 1), 0);
            Due.is("DIVISION and INDEX", x.failed(0), 1 + i);
            Due.asks("DIVISION and INDEX", x, bad[i], 0, NONE, 0, 1 + i);
        }
        int spent = Due.ofSteps(x, 3001);
        x.act(2, spent);
        Due.is("round", x.run(0, 1), 0);
        Due.is("SPENT", x.failed(0), 4);
        Due.asks("SPENT", x, spent, 0, NONE, 0, 4);
        x.act(2, NONE);
        x.arc(0, 0, 0);
        x.arc(0, 0, 0);
        Due.is("walk", x.run(2, 200), 58);
        Due.is("FULL", x.failed(0), 5);
        x.act(1, Due.number(x, MIN));
        Due.is("round", x.run(0, 1), 0);
        Due.is("LONG", x.failed(0), 3);
    }
}
