/** What the document says of answers below -100. */
final class AnswerSentences {
    private static final int NONE = WalkedRounds.NONE, UNKNOWN = WalkedRounds.UNKNOWN;
    private static final int OUTSIDE = WalkedRounds.OUTSIDE, FULL_UP = WalkedRounds.FULL_UP;
    private static final int LOW = Integer.MIN_VALUE, HIGH = Integer.MAX_VALUE;

    private AnswerSentences() {
    }

    static void test() {
        unknown();
        outside();
        fullUp();
        theFirstThatFits();
        nothingChanges();
        whereLongsAreTold();
    }

    /** Two nodes, three arcs, four terms, and rounds that were done, undone, and failed. */
    private static WalkedRounds used() {
        WalkedRounds x = Due.withNodes(2);
        for (int i = 0; i < 3; i++) x.arc(i % 2, 1, 10 + i);
        x.wake(0, false);
        Due.number(x, 3);
        Due.leaf(x, 3);
        Due.leaf(x, 2);
        Due.state(x, 0);
        x.act(1, 2);
        x.act(2, 1);
        x.act(6, 3);
        x.fold(1);
        x.run(0, 3);
        x.undo();
        return x;
    }

    private static void unknown() {
        Sentence.of(2, "Answers of calls below -100: UNKNOWN (no such TERM, NODE, ARC),");
        WalkedRounds x = used();
        for (int bad : new int[] {-1, -2, 4, 40, LOW, HIGH, UNKNOWN}) {
            Due.is("part a " + bad, x.term(8, bad, 0, 0, 0), UNKNOWN);
            Due.is("part b " + bad, x.term(8, 0, bad, 0, 0), UNKNOWN);
            Due.is("part c " + bad, x.term(16, 0, 0, bad, 0), UNKNOWN);
            Due.is("ask() of term " + bad, x.ask(bad, 0, 0), UNKNOWN);
            if (bad != NONE) Due.is("act() of term " + bad, x.act(0, bad), UNKNOWN);
        }
        for (int bad : new int[] {-1, -2, 2, 12, LOW, HIGH}) {
            Due.is("arc() from node " + bad, x.arc(bad, 0, 0), UNKNOWN);
            Due.is("arc() to node " + bad, x.arc(0, bad, 0), UNKNOWN);
            Due.is("put() at node " + bad, x.put(bad, 0, 0), UNKNOWN);
            Due.is("wake() of node " + bad, x.wake(bad, true), UNKNOWN);
            Due.is("ask() at node " + bad, x.ask(0, bad, 0), UNKNOWN);
            Due.is("state() of node " + bad, x.state(bad, 0), UNKNOWN);
            Due.is("awake() of node " + bad, x.awake(bad), UNKNOWN);
        }
        for (int bad : new int[] {-2, 3, 40, LOW, HIGH}) Due.is("ask() of arc " + bad, x.ask(0, 0, bad), UNKNOWN);
    }

    private static void outside() {
        Sentence.of(9, "OUTSIDE (another number is not as told),");
        WalkedRounds x = used();
        for (int bad : new int[] {LOW, OUTSIDE, -2, -1, 200, 201, HIGH}) {
            Due.is("kind " + bad, x.term(bad, 0, 0, 0, 0), OUTSIDE);
            Due.is("n of kind 1 " + bad, x.term(1, 0, 0, 0, bad), OUTSIDE);
            Due.is("put() of STATE " + bad, x.put(0, bad, 0), OUTSIDE);
            Due.is("act() " + bad, x.act(bad, 0), OUTSIDE);
            Due.is("fold() " + bad, x.fold(bad), OUTSIDE);
            Due.is("form " + bad, x.run(bad, 1), OUTSIDE);
            Due.is("failed() " + bad, x.failed(bad), OUTSIDE);
            Due.is("state() " + bad, x.state(0, bad), OUTSIDE);
            Due.is("along() " + bad, x.along(bad), OUTSIDE);
            Due.is("message() " + bad, x.message(bad), OUTSIDE);
            Due.is("count() " + bad, x.count(bad), OUTSIDE);
            for (int form = 0; form < 3; form++) {
                if (form != 2 || bad != 200) Due.is("run(" + form + ", " + bad + ")", x.run(form, bad), OUTSIDE);
            }
        }
    }

    private static void fullUp() {
        Sentence.of(2, "FULL_UP (no room);");
        WalkedRounds x = new WalkedRounds();
        for (int i = 0; i < 40; i++) Due.number(x, i);
        for (int kind = 0; kind < 18; kind++) Due.is("term() of kind " + kind, x.term(kind, 0, 39, 0, 2), FULL_UP);
        Due.is("40 terms", x.count(0), 40);
        for (int i = 0; i < 12; i++) x.node();
        Due.is("node()", x.node(), FULL_UP);
        Due.is("12 nodes", x.count(1), 12);
        for (int i = 0; i < 40; i++) x.arc(0, 11, i);
        Due.is("arc()", x.arc(0, 11, 0), FULL_UP);
        Due.is("40 arcs", x.count(2), 40);
    }

    private static void theFirstThatFits() {
        Sentence.of(7, "the first of these that fits;");
        WalkedRounds x = used();
        Due.is("put(): UNKNOWN ahead of OUTSIDE", x.put(2, 3, 0), UNKNOWN);
        Due.is("act(): UNKNOWN ahead of OUTSIDE", x.act(7, 4), UNKNOWN);
        Due.is("act(): none is known", x.act(7, NONE), OUTSIDE);
        Due.is("state(): UNKNOWN ahead of OUTSIDE", x.state(2, 3), UNKNOWN);
        for (int i = 3; i < 40; i++) x.arc(0, 0, 0);
        for (int i = 4; i < 40; i++) Due.number(x, 0);
        Due.is("arc(): UNKNOWN ahead of FULL_UP", x.arc(0, 2, 0), UNKNOWN);
        Due.is("arc(): UNKNOWN ahead of FULL_UP", x.arc(2, 0, 0), UNKNOWN);
        Due.is("term(): UNKNOWN ahead of FULL_UP", x.term(17, 40, 0, 0, 0), UNKNOWN);
        Due.is("term(): OUTSIDE ahead of FULL_UP", x.term(1, 0, 0, 0, 3), OUTSIDE);
        Due.is("term(): OUTSIDE ahead of FULL_UP", x.term(18, 0, 0, 0, 0), OUTSIDE);
    }

    private static void nothingChanges() {
        Sentence.of(10, "then nothing changes.");
        WalkedRounds x = used();
        for (int i = 4; i < 40; i++) Due.number(x, 0);
        for (int i = 2; i < 12; i++) x.node();
        for (int i = 3; i < 40; i++) x.arc(0, 0, 0);
        x.run(0, 4);
        x.act(3, 38);
        x.run(1, 2);
        x.ask(0, 0, NONE);
        String before = Seen.allOf(x);
        int[] answers = {x.term(18, 0, 0, 0, 0), x.term(8, 40, 0, 0, 0), x.term(1, 0, 0, 0, 3), x.term(0, 0, 0, 0, 0),
            x.node(), x.arc(12, 0, 5), x.arc(0, 12, 5), x.arc(0, 0, 5), x.put(12, 0, 5), x.put(0, 3, 5), x.put(0, -1, 5),
            x.wake(12, false), x.wake(-1, false), x.act(0, 40), x.act(7, 0), x.act(-1, NONE), x.fold(4), x.fold(-1),
            x.run(0, 0), x.run(0, 51), x.run(1, 51), x.run(2, 201), x.run(3, 1), x.run(-1, 1), x.failed(5), x.awake(12),
            x.along(-1), x.count(8), (int) x.ask(40, 0, NONE), (int) x.ask(0, 12, NONE), (int) x.ask(0, 0, 40),
            (int) x.state(12, 0), (int) x.state(0, 3), (int) x.message(-1)};
        for (int i = 0; i < answers.length; i++) Due.holds("refused: call " + i, answers[i] < -100);
        Due.holds("nothing is told otherwise", Seen.allOf(x).equals(before));
        Due.is("two can be undone", x.undo(), 1);
        int[] acts = {NONE, 2, 1, 38, NONE, NONE, 3};
        for (int which = 0; which < 7; which++) Due.is("act " + which, x.act(which, NONE), acts[which]);
        Due.is("the fold", x.fold(0), 1);
        failureStays();
    }

    private static void failureStays() {
        WalkedRounds x = used();
        x.act(4, Due.division(x));
        x.run(0, 1);
        Due.failed("fails", x, 1, 4, 1, NONE, 3);
        Due.is("refused", x.run(0, 51), OUTSIDE);
        Due.is("refused", x.run(2, 201), OUTSIDE);
        Due.is("refused", x.run(3, 1), OUTSIDE);
        Due.failed("a refused run() leaves it", x, 1, 4, 1, NONE, 3);
    }

    private static void whereLongsAreTold() {
        Sentence.of(14, "(Where longs are told these stand for what is not there, too.)");
        WalkedRounds x = Due.withNodes(1);
        x.arc(0, 0, 0);
        Due.is("state() of no node", x.state(1, 0), -101L);
        Due.is("state() of no STATE", x.state(0, 3), -102L);
        Due.is("message() of none", x.message(0), -102L);
        Due.is("ask() of no TERM", x.ask(0, 0, NONE), -101L);
        for (long n : new long[] {UNKNOWN, OUTSIDE, FULL_UP}) {
            int t = Due.number(x, n);
            x.put(0, 1, n);
            x.act(1, t);
            x.act(6, t);
            Due.is("round", x.run(0, 1), 1);
            Due.is("a STATE may be " + n, x.state(0, 1), n);
            Due.is("a message may be " + n, x.message(0), n);
            Due.is("THE WHOLE may be " + n, x.whole(), n);
            Due.asks("a TERM may come to " + n, x, t, 0, NONE, n, 0);
        }
    }
}
