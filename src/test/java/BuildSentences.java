/** Promises 1 to 8: a new object, term, node, arc, put, wake, act, fold. */
final class BuildSentences {
    private static final int NONE = WalkedRounds.NONE, UNKNOWN = WalkedRounds.UNKNOWN;
    private static final int OUTSIDE = WalkedRounds.OUTSIDE, FULL_UP = WalkedRounds.FULL_UP;
    private static final int LOW = Integer.MIN_VALUE, HIGH = Integer.MAX_VALUE;
    private static final long MIN = Long.MIN_VALUE, MAX = Long.MAX_VALUE;
    private static final int[] PARTS = {0, 0, 0, 0, 0, 0, 0, 0, 2, 2, 2, 2, 2, 2, 2, 2, 3, 1};

    private BuildSentences() {
    }

    static void test() {
        newObject();
        termNumbers();
        kindAheadOfAll();
        partsThatTheKindHas();
        numberOfKindOne();
        noRoomForTerms();
        whatAKindHasNot();
        node();
        nodeFullUp();
        arc();
        arcRefused();
        put();
        putRefused();
        wake();
        wakeUnknown();
        act();
        actRefused();
        fold();
        foldOutside();
    }

    private static void newObject() {
        Sentence.of(1, "No TERMS, NODES, ARCS; a PROGRAM of no ACTS.");
        WalkedRounds other = Due.withNodes(3);
        other.arc(0, 1, 2);
        other.act(2, Due.number(other, 1));
        other.run(0, 2);
        WalkedRounds x = new WalkedRounds();
        for (int what = 0; what < 8; what++) Due.is("count(" + what + ")", x.count(what), 0);
        Due.is("no TERM", x.act(0, 0), UNKNOWN);
        Due.is("no TERM as a part", x.term(17, 0, 0, 0, 0), UNKNOWN);
        Due.is("no NODE", x.awake(0), UNKNOWN);
        Due.is("no NODE", x.state(0, 0), UNKNOWN);
        Due.is("no NODE", x.arc(0, 0, 0), UNKNOWN);
        Due.is("no message", x.along(0), OUTSIDE);
        Due.is("no message", x.message(0), OUTSIDE);
        Due.is("nothing to undo", x.undo(), NONE);
        Due.is("the whole", x.whole(), 0);
        Due.is("why()", x.why(), 0);
        Due.noFailure("nothing failed", x);
        for (int form = 0; form < 3; form++) Due.is("run(" + form + ")", x.run(form, 1), 0);
        x.node();
        x.arc(0, 0, 0);
        Due.is("no ARC but the one", x.count(2), 1);
        for (int which = 0; which < 7; which++) Due.is("no ACT " + which, x.act(which, NONE), NONE);
        Due.is("FOLD 0", x.fold(0), 0);
        Due.is("the other one is as it was", other.count(3), 2);
    }

    private static void termNumbers() {
        Sentence.of(2, "A TERM: its number.");
        WalkedRounds x = new WalkedRounds();
        Due.is("the first", x.term(0, 0, 0, 0, 9), 0);
        for (int kind = 0; kind < 18; kind++) Due.is("kind " + kind, x.term(kind, 0, 0, 0, 0), 1 + kind);
        Due.is("they are counted", x.count(0), 19);
        Due.is("the same once more is another", x.term(0, 0, 0, 0, 9), 19);
    }

    private static void kindAheadOfAll() {
        Sentence.of(2, "OUTSIDE: the kind (0 .. 17; ahead of all);");
        WalkedRounds x = new WalkedRounds();
        for (int filled = 0; filled < 2; filled++) {
            for (int kind : new int[] {-1, 18, LOW, HIGH, 100, OUTSIDE}) {
                Due.is("kind " + kind, x.term(kind, 0, 0, 0, 0), OUTSIDE);
                Due.is("ahead of parts: kind " + kind, x.term(kind, -1, 99, HIGH, 0), OUTSIDE);
                Due.is("ahead of n: kind " + kind, x.term(kind, 0, 0, 0, 3), OUTSIDE);
            }
            for (int i = x.count(0); i < 40; i++) Due.is("kinds 0 and 17 are there", x.term(i % 2 * 17, 0, 0, 0, 0), i);
        }
    }

    private static void partsThatTheKindHas() {
        Sentence.of(2, "UNKNOWN: parts that the kind has;");
        for (int kind = 8; kind < 18; kind++) {
            WalkedRounds x = new WalkedRounds();
            Due.number(x, 1);
            Due.number(x, 2);
            for (int bad : new int[] {-1, 2, 40, LOW, HIGH}) {
                Due.is("a of kind " + kind, x.term(kind, bad, 0, 0, 0), UNKNOWN);
                if (PARTS[kind] > 1) Due.is("b of kind " + kind, x.term(kind, 0, bad, 0, 0), UNKNOWN);
                if (PARTS[kind] > 2) Due.is("c of kind " + kind, x.term(kind, 0, 0, bad, 0), UNKNOWN);
            }
            Due.is("the youngest is known", x.term(kind, 1, 1, 1, 0), 2);
            Due.is("refused ones were not kept", x.count(0), 3);
        }
    }

    private static void numberOfKindOne() {
        Sentence.of(2, "OUTSIDE: n of kind 1;");
        WalkedRounds x = new WalkedRounds();
        for (long n : new long[] {-1, 3, 1L << 32, (1L << 32) + 2, -1L << 32, MIN, MAX}) {
            Due.is("n " + n, x.term(1, 0, 0, 0, n), OUTSIDE);
        }
        for (int n = 0; n < 3; n++) Due.is("n " + n, x.term(1, 0, 0, 0, n), n);
        for (int kind = 0; kind < 18; kind++) {
            if (kind != 1) Due.holds("of kind 1 alone: " + kind, x.term(kind, 0, 0, 0, MAX) >= 0);
        }
    }

    private static void noRoomForTerms() {
        Sentence.of(2, "FULL_UP.");
        WalkedRounds x = new WalkedRounds();
        for (int i = 0; i < 40; i++) Due.is("term " + i, x.term(7, 0, 0, 0, 0), i);
        Due.is("the 41st", x.term(7, 0, 0, 0, 0), FULL_UP);
        Due.is("the kind is ahead of it", x.term(18, 0, 0, 0, 0), OUTSIDE);
        Due.is("parts are ahead of it", x.term(8, 39, 40, 0, 0), UNKNOWN);
        Due.is("n is ahead of it", x.term(1, 0, 0, 0, -1), OUTSIDE);
        Due.is("again", x.term(8, 39, 39, 0, 0), FULL_UP);
        Due.is("40", x.count(0), 40);
    }

    private static void whatAKindHasNot() {
        Sentence.of(2, "(What a kind has not is not looked at.)");
        for (int kind = 0; kind < 18; kind++) {
            for (int bad : new int[] {-1, 7, LOW, HIGH}) {
                WalkedRounds x = Due.withNodes(1);
                Due.number(x, 0);
                int a = PARTS[kind] > 0 ? 0 : bad, b = PARTS[kind] > 1 ? 0 : bad, c = PARTS[kind] > 2 ? 0 : bad;
                long n = kind == 1 ? 2 : MIN;
                Due.is("kind " + kind + " with " + bad, x.term(kind, a, b, c, n), 1);
                long want = kind == 0 ? MIN : kind == 5 ? 1 : 0;
                Due.asks("kind " + kind + " with " + bad, x, 1, 0, NONE, want, kind == 11 || kind == 12 ? 1 : 0);
            }
        }
    }

    private static void node() {
        Sentence.of(3, "A NODE: its number.");
        WalkedRounds x = new WalkedRounds();
        for (int i = 0; i < 12; i++) {
            Due.is("node " + i, x.node(), i);
            Due.is("counted", x.count(1), i + 1);
        }
    }

    private static void nodeFullUp() {
        Sentence.of(3, "FULL_UP.");
        WalkedRounds x = Due.withNodes(12);
        for (int i = 0; i < 3; i++) Due.is("the 13th", x.node(), FULL_UP);
        Due.is("12", x.count(1), 12);
        Due.is("12 are awake", x.count(4), 12);
        Due.is("run", x.run(0, 1), 1);
        Due.is("refused", x.node(), FULL_UP);
        Due.is("what can be undone stays", x.count(7), 1);
    }

    private static void arc() {
        Sentence.of(4, "An ARC: its number.");
        WalkedRounds x = Due.withNodes(12);
        int weight = Due.leaf(x, 2);
        for (int i = 0; i < 40; i++) {
            Due.is("arc " + i, x.arc(11 - i % 12, i % 12, i == 39 ? MIN : MAX - i), i);
            Due.is("counted", x.count(2), i + 1);
        }
        for (int i = 0; i < 40; i++) Due.is("weight", x.ask(weight, 0, i), i == 39 ? MIN : MAX - i);
    }

    private static void arcRefused() {
        Sentence.of(4, "UNKNOWN; FULL_UP.");
        WalkedRounds x = new WalkedRounds();
        Due.is("no nodes", x.arc(0, 0, 0), UNKNOWN);
        for (int i = 0; i < 3; i++) x.node();
        for (int bad : new int[] {-1, 3, LOW, HIGH}) {
            Due.is("from " + bad, x.arc(bad, 2, 0), UNKNOWN);
            Due.is("to " + bad, x.arc(2, bad, 0), UNKNOWN);
            Due.is("both " + bad, x.arc(bad, bad, 0), UNKNOWN);
        }
        Due.is("none was kept", x.count(2), 0);
        for (int i = 0; i < 40; i++) Due.is("arc " + i, x.arc(2, 2, 0), i);
        Due.is("the 41st", x.arc(2, 2, 0), FULL_UP);
        Due.is("UNKNOWN is ahead", x.arc(2, 3, 0), UNKNOWN);
        Due.is("UNKNOWN is ahead", x.arc(-1, 2, 0), UNKNOWN);
        Due.asks("40 go from it", x, Due.leaf(x, 6), 2, NONE, 40, 0);
    }

    private static void put() {
        Sentence.of(5, "STATE k of a NODE becomes v: 1.");
        WalkedRounds x = Due.withNodes(12);
        for (int i = 0; i < 12; i++) for (int k = 0; k < 3; k++) Due.is("put", x.put(i, k, MIN + 3 * i + k), 1);
        for (int i = 0; i < 12; i++) for (int k = 0; k < 3; k++) Due.is("is", x.state(i, k), MIN + 3 * i + k);
        Due.is("the same", x.put(11, 2, MIN + 35), 1);
        Due.is("the greatest", x.put(11, 2, MAX), 1);
        Due.is("the greatest", x.state(11, 2), MAX);
        x.wake(11, false);
        Due.is("asleep too", x.put(11, 2, 5), 1);
        Due.is("asleep too", x.state(11, 2), 5);
        Due.is("it wakes nobody", x.awake(11), 0);
    }

    private static void putRefused() {
        Sentence.of(5, "UNKNOWN; OUTSIDE.");
        WalkedRounds x = Due.withNodes(2);
        for (int bad : new int[] {-1, 2, LOW, HIGH}) Due.is("node " + bad, x.put(bad, 0, 7), UNKNOWN);
        for (int bad : new int[] {-1, 3, LOW, HIGH}) Due.is("STATE " + bad, x.put(0, bad, 7), OUTSIDE);
        for (int bad : new int[] {-1, 3, LOW, HIGH}) Due.is("UNKNOWN is ahead", x.put(bad, bad, 7), UNKNOWN);
        for (int i = 0; i < 2; i++) for (int k = 0; k < 3; k++) Due.is("nothing was put", x.state(i, k), 0);
    }

    private static void wake() {
        Sentence.of(6, "A NODE is AWAKE, or not: 1; 0: it was so.");
        WalkedRounds x = Due.withNodes(12);
        for (int i = 0; i < 12; i += 11) {
            Due.is("it was so", x.wake(i, true), 0);
            Due.is("to sleep", x.wake(i, false), 1);
            Due.is("it sleeps", x.awake(i), 0);
            Due.is("it was so", x.wake(i, false), 0);
            Due.is("it sleeps", x.awake(i), 0);
            Due.is("11 are awake", x.count(4), 11);
            Due.is("awake", x.wake(i, true), 1);
            Due.is("it is awake", x.awake(i), 1);
        }
        x.act(5, Due.number(x, 1));
        x.run(0, 1);
        Due.is("halted: it was so", x.wake(3, false), 0);
        Due.is("halted: awake again", x.wake(3, true), 1);
    }

    private static void wakeUnknown() {
        Sentence.of(6, "UNKNOWN.");
        WalkedRounds x = new WalkedRounds();
        Due.is("no nodes", x.wake(0, true), UNKNOWN);
        x.node();
        for (int bad : new int[] {-1, 1, LOW, HIGH}) {
            Due.is("node " + bad, x.wake(bad, true), UNKNOWN);
            Due.is("node " + bad, x.wake(bad, false), UNKNOWN);
        }
        Due.is("awake", x.count(4), 1);
    }

    private static void act() {
        Sentence.of(7, "An ACT (0 .. 6) of THE PROGRAM becomes a TERM, or none (NONE): what it was.");
        WalkedRounds x = new WalkedRounds();
        for (int i = 0; i < 40; i++) Due.number(x, i);
        for (int which = 0; which < 7; which++) {
            Due.is("none at first", x.act(which, 39), NONE);
            Due.is("the last TERM", x.act(which, 0), 39);
            Due.is("the first TERM", x.act(which, 0), 0);
            Due.is("the same", x.act(which, NONE), 0);
            Due.is("none", x.act(which, NONE), NONE);
            Due.is("none", x.act(which, which), NONE);
        }
        for (int which = 0; which < 7; which++) Due.is("each its own", x.act(which, NONE), which);
    }

    private static void actRefused() {
        Sentence.of(7, "UNKNOWN: the TERM; OUTSIDE.");
        WalkedRounds x = new WalkedRounds();
        Due.is("no TERMS", x.act(0, 0), UNKNOWN);
        Due.is("a TERM", Due.number(x, 0), 0);
        for (int bad : new int[] {-2, 1, 40, LOW, HIGH}) {
            Due.is("TERM " + bad, x.act(6, bad), UNKNOWN);
            Due.is("ahead of OUTSIDE", x.act(7, bad), UNKNOWN);
        }
        for (int bad : new int[] {-1, 7, LOW, HIGH}) {
            Due.is("ACT " + bad, x.act(bad, 0), OUTSIDE);
            Due.is("ACT " + bad + " of none", x.act(bad, NONE), OUTSIDE);
        }
        for (int which = 0; which < 7; which++) Due.is("still none", x.act(which, NONE), NONE);
    }

    private static void fold() {
        Sentence.of(8, "The FOLD becomes 0 .. 3: what it was.");
        WalkedRounds x = new WalkedRounds();
        int was = 0;
        for (int sort : new int[] {0, 3, 3, 1, 2, 0}) {
            Due.is("fold(" + sort + ")", x.fold(sort), was);
            was = sort;
        }
    }

    private static void foldOutside() {
        Sentence.of(8, "OUTSIDE.");
        WalkedRounds x = new WalkedRounds();
        x.fold(3);
        for (int bad : new int[] {-1, 4, LOW, HIGH}) Due.is("fold(" + bad + ")", x.fold(bad), OUTSIDE);
        Due.is("still 3", x.fold(0), 3);
    }
}
