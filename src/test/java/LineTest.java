/** Walks as they come (promise 9, form 2). */
public final class LineTest {
    private static final int NONE = WalkedRounds.NONE, OUTSIDE = WalkedRounds.OUTSIDE;

    public static void main(String[] args) {
        orderOfTheLine();
        newStatesAtOnce();
        haltAndFolded();
        whatStays();
        bounds();
        full();
        failsInTheMidst();
        failsAtTheStart();
        spent();
        Due.end();
    }

    /** 0 sends to 2 and 1, 2 sends to 1, 1 sends to 3; 3 sends nothing. */
    private static WalkedRounds tree() {
        WalkedRounds x = Due.withNodes(4);
        x.arc(2, 1, 10);
        x.arc(0, 2, 20);
        x.arc(1, 3, 30);
        x.arc(0, 1, 40);
        x.act(1, Due.leaf(x, 2));
        return x;
    }

    private static void orderOfTheLine() {
        WalkedRounds x = tree();
        for (int i = 1; i < 4; i++) x.wake(i, false);
        Due.is("till the line is empty", x.run(2, 200), 5);
        Due.along("the line", x, 1, 3, 0, 2, 2);
        Due.messages("the line", x, 20, 40, 10, 30, 30);
        WalkedRounds y = tree();
        y.wake(3, false);
        Due.is("three start", y.run(2, 4), 4);
        Due.along("nodes in order, arcs in order", y, 1, 3, 2, 0);
        WalkedRounds z = tree();
        z.act(0, Due.join(z, 15, Due.leaf(z, 2), Due.number(z, 40)));
        Due.is("SEND", z.run(2, 200), 6);
        Due.along("SEND", z, 1, 2, 0, 0, 2, 2);
        WalkedRounds none = tree();
        for (int i = 0; i < 4; i++) none.wake(i, false);
        Due.is("none is awake", none.run(2, 200), 0);
        Due.is("nothing to undo", none.count(7), 0);
    }

    private static void newStatesAtOnce() {
        WalkedRounds x = Due.withNodes(2);
        x.arc(0, 1, 5);
        x.arc(1, 0, 7);
        x.wake(1, false);
        x.put(1, 0, 100);
        x.act(1, Due.join(x, 8, Due.state(x, 0), Due.leaf(x, 2)));
        x.act(2, Due.join(x, 8, Due.state(x, 0), Due.leaf(x, 3)));
        x.act(3, Due.state(x, 0));
        x.act(4, Due.leaf(x, 4));
        Due.is("two taken", x.run(2, 2), 2);
        Due.messages("of new states", x, 5, 112);
        Due.states("summed", x, 0, 112, 105);
        Due.states("NEW 1 of old states", x, 1, 0, 100);
        Due.states("one message each", x, 2, 1, 1);
        x.fold(3);
        x.act(2, Due.leaf(x, 2));
        Due.is("without an arc", x.run(2, 1), 1);
        Due.states("without an arc", x, 0, 112, 0);
    }

    private static void haltAndFolded() {
        WalkedRounds x = Due.withNodes(1);
        x.arc(0, 0, 1);
        int folded = Due.leaf(x, 3), many = Due.leaf(x, 4);
        x.act(1, Due.join(x, 8, Due.state(x, 0), Due.join(x, 8, folded, many)));
        x.act(2, Due.join(x, 8, Due.state(x, 0), Due.number(x, 3)));
        x.act(5, Due.join(x, 15, Due.number(x, 8), Due.state(x, 0)));
        Due.is("HALT with new states", x.run(2, 200), 3);
        Due.messages("nothing is folded in MESSAGE", x, 0, 3, 6);
        Due.states("9", x, 0, 9);
        Due.awake("a HALT lets it be awake", x, 1);
        x.put(0, 0, 0);
        x.act(5, Due.join(x, 15, Due.number(x, 5), folded));
        Due.is("HALT with what is FOLDED", x.run(2, 200), 3);
        x.act(5, Due.join(x, 9, many, Due.number(x, 1)));
        Due.is("of one message", x.run(2, 20), 20);
        x.act(5, Due.number(x, -1));
        Due.is("any number but 0", x.run(2, 20), 1);
    }

    private static void whatStays() {
        WalkedRounds x = Due.withNodes(2);
        x.arc(0, 1, 1);
        x.act(6, Due.number(x, 7));
        x.run(0, 2);
        x.wake(1, false);
        x.act(2, Due.leaf(x, 5));
        Due.is("one", x.run(2, 5), 1);
        Due.awake("who is awake", x, 1, 0);
        Due.is("the whole", x.whole(), 14);
        Due.is("rounds", x.count(3), 2);
        Due.states("round 3", x, 0, 0, 3);
        Due.is("a new line each time", x.run(2, 5), 1);
        x.wake(0, false);
        Due.is("none", x.run(2, 5), 0);
        Due.along("what was told stays", x, 0);
    }

    private static void bounds() {
        WalkedRounds x = Due.withNodes(1);
        x.arc(0, 0, 1);
        Due.is("201", x.run(2, 201), OUTSIDE);
        Due.is("0", x.run(2, 0), OUTSIDE);
        Due.is("200", x.run(2, 200), 200);
        Due.is("200 told", x.count(6), 200);
        Due.is("the last", x.along(199), 0);
        Due.is("no more", x.along(200), OUTSIDE);
        Due.is("1", x.run(2, 1), 1);
        Due.is("1 told", x.count(6), 1);
    }

    private static void full() {
        WalkedRounds x = Due.withNodes(2);
        for (int i = 0; i < 20; i++) x.arc(0, 0, i);
        for (int i = 0; i < 20; i++) x.arc(1, 1, i);
        x.act(2, Due.join(x, 8, Due.state(x, 0), Due.number(x, 1)));
        // 40 at the start, 19 more by each message: the second one finds a full line.
        Due.is("full", x.run(2, 200), 1);
        Due.failed("full", x, 5, 1, 0, 2, 1);
        Due.states("one was done", x, 0, 1, 0);
        Due.is("it can be undone", x.count(7), 1);
        int zero = Due.number(x, 0);
        int bad = Due.join(x, 11, zero, zero);
        int weight = Due.leaf(x, 2);
        int late = Due.join(x, 15, Due.state(x, 0), Due.number(x, 3));
        x.act(1, x.term(16, late, weight, bad, 0));
        Due.is("MESSAGE is asked ahead of FULL", x.run(2, 200), 1);
        Due.failed("MESSAGE is asked ahead of FULL", x, 1, 1, 0, 0, 1);
        // Two at the start, one more by each message: 60 after 58 of them.
        WalkedRounds y = Due.withNodes(1);
        y.arc(0, 0, 0);
        y.arc(0, 0, 0);
        Due.is("60 are not too many", y.run(2, 58), 58);
        Due.noFailure("60 are not too many", y);
        Due.is("61 are", y.run(2, 59), 58);
        Due.failed("61 are", y, 5, 1, 0, 1, 1);
    }

    private static void failsInTheMidst() {
        WalkedRounds x = Due.withNodes(3);
        x.arc(0, 1, 1);
        x.arc(1, 2, 0);
        x.wake(1, false);
        x.wake(2, false);
        int one = Due.number(x, 1), weight = Due.leaf(x, 2), folded = Due.leaf(x, 3);
        x.act(2, Due.join(x, 8, Due.state(x, 0), one));
        int bad = Due.join(x, 11, one, weight);
        x.act(1, bad);
        Due.is("MESSAGE of the first", x.run(2, 9), 0);
        Due.failed("MESSAGE of the first", x, 1, 1, 1, 1, 1);
        Due.states("not done", x, 0, 0, 0, 0);
        Due.is("took none", x.count(7), 0);
        Due.is("told none", x.count(6), 0);
        x.act(1, weight);
        x.act(5, Due.join(x, 12, one, folded));
        Due.is("HALT of the second", x.run(2, 9), 1);
        Due.failed("HALT of the second", x, 1, 5, 2, NONE, 1);
        Due.states("new states are not done", x, 0, 0, 1, 0);
        Due.along("told one", x, 0);
        x.act(5, NONE);
        x.act(4, Due.join(x, 12, one, folded));
        Due.is("NEW 2 of the second", x.run(2, 9), 1);
        Due.failed("NEW 2 of the second", x, 1, 4, 2, NONE, 1);
        Due.states("new states", x, 0, 0, 2, 0);
        x.act(4, NONE);
        x.act(0, Due.join(x, 15, weight, Due.join(x, 12, one, weight)));
        Due.is("SEND of the first", x.run(2, 9), 0);
        Due.noFailure("SEND of the first is 0", x);
    }

    private static void failsAtTheStart() {
        WalkedRounds x = Due.withNodes(2);
        x.arc(0, 1, 1);
        x.arc(1, 0, 0);
        int one = Due.number(x, 1);
        x.run(2, 1);
        x.act(0, Due.join(x, 11, one, Due.leaf(x, 2)));
        Due.is("SEND at the start", x.run(2, 9), 0);
        Due.failed("SEND at the start", x, 1, 0, 1, 1, 1);
        Due.along("what was told stays", x, 0);
        Due.is("steps stay counted", x.count(5), 6);
    }

    private static void spent() {
        WalkedRounds x = Due.withNodes(1);
        x.arc(0, 0, 0);
        int heavy = Due.heavy(x, 9);
        int one = Due.number(x, 1);
        x.act(2, heavy);
        x.act(3, Due.join(x, 8, Due.state(x, 1), one));
        // 1023 and 3 a message: two of them fit.
        Due.is("spent", x.run(2, 200), 2);
        Due.failed("spent", x, 4, 2, 0, NONE, 1);
        Due.is("3000", x.count(5), 3000);
        Due.states("two", x, 1, 2);
        Due.is("anew", x.run(2, 200), 2);
        Due.is("6000", x.count(5), 6000);
        Due.states("four", x, 1, 4);
    }
}
