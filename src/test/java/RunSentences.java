/** Promises 9 to 11: run, undo, failed. */
final class RunSentences {
    private static final int NONE = WalkedRounds.NONE, OUTSIDE = WalkedRounds.OUTSIDE;
    private static final int LOW = Integer.MIN_VALUE, HIGH = Integer.MAX_VALUE;

    private RunSentences() {
    }

    static void test() {
        forms();
        howManyRounds();
        tillNoneIsAwake();
        tillOneFails();
        howManyMessages();
        takenAndDone();
        runOutside();
        undoneAsAhead();
        howManyMore();
        tookAMessage();
        noneCanBe();
        atMostSix();
        onlyThoseSince();
        refusedOnesEndNothing();
        whatFailedLast();
        noneWhereNothingFailed();
        failedOutside();
    }

    private static void forms() {
        Sentence.of(9, "Walks: form 0 PUSHED, 1 PULLED:");
        int[][] order = {{2, 0, 1}, {1, 0, 2}, {2, 0, 1}};
        for (int form = 0; form < 3; form++) {
            WalkedRounds x = Due.withNodes(4);
            x.arc(1, 3, 0);
            x.arc(2, 2, 0);
            x.arc(0, 3, 0);
            x.wake(3, false);
            x.act(5, Due.number(x, 1));
            Due.is("form " + form, x.run(form, form == 2 ? 3 : 1), form == 2 ? 3 : 1);
            Due.along("form " + form, x, order[form]);
            Due.is("a ROUND, or none", x.count(3), form == 2 ? 0 : 1);
        }
    }

    private static void howManyRounds() {
        Sentence.of(9, "n (1 .. 50) ROUNDS,");
        for (int form = 0; form < 2; form++) {
            WalkedRounds x = Due.withNodes(1);
            int done = 0;
            for (int n : new int[] {1, 2, 49, 50}) {
                Due.is("run(" + form + ", " + n + ")", x.run(form, n), n);
                done += n;
                Due.is("rounds", x.count(3), done);
            }
            for (int n : new int[] {0, -1, 51, 52, 200, LOW, HIGH}) {
                Due.is("run(" + form + ", " + n + ")", x.run(form, n), OUTSIDE);
                Due.is("rounds", x.count(3), done);
            }
        }
    }

    private static void tillNoneIsAwake() {
        Sentence.of(9, "till none is AWAKE,");
        for (int form = 0; form < 2; form++) {
            WalkedRounds x = Due.withNodes(2);
            x.wake(0, false);
            // HALT from the 5th ROUND on.
            x.act(5, Due.join(x, 15, Due.number(x, 4), Due.leaf(x, 5)));
            Due.is("5 rounds", x.run(form, 50), 5);
            Due.awake("none", x, 0, 0);
            Due.is("none more", x.run(form, 50), 0);
            Due.is("5 in all", x.count(3), 5);
            Due.noFailure("that is no failure", x);
            x.wake(0, true);
            Due.is("the last one is done", x.run(form, 50), 1);
            x.wake(1, true);
            Due.is("exactly one", x.run(form, 1), 1);
        }
    }

    private static void tillOneFails() {
        Sentence.of(9, "or one FAILS: how many were done.");
        for (int form = 0; form < 2; form++) {
            for (int last : new int[] {1, 2, 50}) {
                WalkedRounds x = Due.withNodes(1);
                int left = Due.join(x, 9, Due.number(x, last), Due.leaf(x, 5));
                x.act(3, Due.join(x, 11, left, left));
                Due.is("round " + last + " fails", x.run(form, 50), last - 1);
                Due.failed("round " + last + " fails", x, 1, 3, 0, NONE, last);
                Due.is("rounds", x.count(3), last - 1);
                Due.is("again", x.run(form, 50), 0);
                Due.failed("again", x, 1, 3, 0, NONE, last);
            }
        }
    }

    private static void howManyMessages() {
        Sentence.of(9, "2 AS THEY COME, n (1 .. 200) messages:");
        WalkedRounds x = Due.withNodes(1);
        x.arc(0, 0, 0);
        x.act(2, Due.join(x, 8, Due.state(x, 0), Due.number(x, 1)));
        int taken = 0;
        for (int n : new int[] {1, 2, 50, 51, 199, 200}) {
            Due.is("run(2, " + n + ")", x.run(2, n), n);
            taken += n;
            Due.is("taken", x.state(0, 0), taken);
            Due.is("told", x.count(6), n);
        }
        for (int n : new int[] {0, -1, 201, 202, LOW, HIGH}) {
            Due.is("run(2, " + n + ")", x.run(2, n), OUTSIDE);
            Due.is("taken", x.state(0, 0), taken);
        }
    }

    private static void takenAndDone() {
        Sentence.of(9, "how many were taken (and done).");
        for (int last : new int[] {1, 2, 60, 61, 200, 201}) {
            WalkedRounds x = Due.withNodes(1);
            x.arc(0, 0, 0);
            int s = Due.state(x, 0), one = Due.number(x, 1);
            x.act(2, Due.join(x, 8, s, one));
            x.act(4, Due.join(x, 11, one, Due.join(x, 9, Due.number(x, last - 1), s)));
            Due.is("message " + last + " fails", x.run(2, 200), last - 1);
            Due.is("told", x.count(6), last - 1);
            Due.is("done", x.state(0, 0), last - 1);
            Due.is("failed", x.failed(0), last > 200 ? 0 : 1);
        }
        WalkedRounds x = Due.withNodes(2);
        x.arc(0, 1, 0);
        Due.is("no more of them", x.run(2, 200), 1);
    }

    private static void runOutside() {
        Sentence.of(9, "OUTSIDE.");
        WalkedRounds x = Due.withNodes(1);
        x.arc(0, 0, 0);
        for (int form : new int[] {-1, 3, LOW, HIGH}) {
            for (int n : new int[] {0, 1, 50, 200, 201}) Due.is("form " + form, x.run(form, n), OUTSIDE);
        }
        for (int form = 0; form < 3; form++) {
            Due.is("0", x.run(form, 0), OUTSIDE);
            Due.is("201", x.run(form, 201), OUTSIDE);
            Due.is("51", x.run(form, 51), form == 2 ? 51 : OUTSIDE);
        }
        Due.is("no round", x.count(3), 0);
        Due.is("one walk", x.count(7), 1);
    }

    /** Node 0 sends 1 to node 1, which sleeps at first; STATE 0 counts, and THE WHOLE is its sum. */
    private static WalkedRounds counter() {
        WalkedRounds x = Due.withNodes(2);
        x.arc(0, 1, 1);
        int one = Due.number(x, 1);
        x.act(2, Due.join(x, 8, Due.state(x, 0), one));
        x.act(3, Due.join(x, 8, Due.state(x, 1), Due.leaf(x, 4)));
        x.act(4, Due.leaf(x, 5));
        x.act(6, Due.state(x, 0));
        x.wake(1, false);
        return x;
    }

    private static void undoneAsAhead() {
        Sentence.of(10, "The latest ROUND, or walk AS THEY COME that took a message, is undone: STATES, who is AWAKE,"
            + " THE WHOLE, how many ROUNDS were done are as ahead of it:");
        WalkedRounds x = counter();
        x.act(5, Due.join(x, 15, Due.number(x, 3), Due.leaf(x, 5)));
        String[] seen = new String[6];
        int[] forms = {0, 2, 1, 2, 0, 1};
        for (int i = 0; i < 6; i++) {
            seen[i] = told(x);
            Due.is("walk " + i, x.run(forms[i], 1), 1);
        }
        Due.awake("halted", x, 0, 0);
        int steps = x.count(5);
        for (int i = 5; i >= 0; i--) {
            Due.is("undo", x.undo(), i);
            Due.holds("as ahead of walk " + i + ": " + told(x) + " not " + seen[i], told(x).equals(seen[i]));
        }
        Due.is("STEPS stay", x.count(5), steps);
        for (int i = 0; i < 6; i++) {
            Due.holds("gone on with", told(x).equals(seen[i]));
            Due.is("walk " + i, x.run(forms[i], 1), 1);
        }
        allOfThem();
    }

    private static void allOfThem() {
        for (int form = 0; form < 3; form++) allOfThem(form);
    }

    private static void allOfThem(int form) {
        WalkedRounds x = Due.withNodes(12);
        for (int i = 0; i < 12; i++) for (int k = 0; k < 3; k++) x.put(i, k, 1 + 3 * i + k);
        for (int i = 0; i < 12; i++) x.arc(i, 11 - i, 0);
        for (int i = 0; i < 12; i += 3) x.wake(i, false);
        int minus = Due.number(x, -1);
        for (int k = 0; k < 3; k++) x.act(2 + k, minus);
        x.act(5, minus);
        Due.is("walk", x.run(form, form == 2 ? 8 : 1), form == 2 ? 8 : 1);
        for (int i = 0; i < 12; i++) {
            if (form != 2 || i % 3 != 2) Due.is("it has changed", x.state(i, 2), -1);
        }
        Due.is("undo", x.undo(), 0);
        for (int i = 0; i < 12; i++) for (int k = 0; k < 3; k++) Due.is("STATE", x.state(i, k), 1 + 3 * i + k);
        for (int i = 0; i < 12; i++) Due.is("AWAKE", x.awake(i), i % 3 == 0 ? 0 : 1);
    }

    private static String told(WalkedRounds x) {
        StringBuilder s = new StringBuilder();
        for (int i = 0; i < x.count(1); i++) {
            for (int k = 0; k < 3; k++) s.append(x.state(i, k)).append(' ');
            s.append(x.awake(i)).append(' ');
        }
        return s.append(x.whole()).append(' ').append(x.count(3)).append(' ').append(x.count(4)).toString();
    }

    private static void howManyMore() {
        Sentence.of(10, "how many more can be.");
        for (int rounds = 1; rounds < 7; rounds++) {
            WalkedRounds x = counter();
            Due.is("rounds", x.run(1, rounds), rounds);
            for (int left = rounds - 1; left >= 0; left--) {
                Due.is("undo", x.undo(), left);
                Due.is("count(7)", x.count(7), left);
                Due.is("rounds", x.count(3), left);
            }
            Due.is("no more", x.undo(), NONE);
        }
    }

    private static void tookAMessage() {
        Sentence.of(10, "walk AS THEY COME that took a message,");
        WalkedRounds x = counter();
        Due.is("round", x.run(0, 1), 1);
        x.act(0, Due.join(x, 9, Due.leaf(x, 5), Due.number(x, 2)));
        Due.is("round", x.run(0, 1), 1);
        Due.is("a round without messages can be", x.count(7), 1);
        x.act(0, Due.join(x, 15, Due.leaf(x, 5), Due.number(x, 4)));
        Due.is("took one", x.run(2, 1), 1);
        Due.is("can be", x.count(7), 1);
        Due.is("round", x.run(0, 1), 1);
        Due.is("took none", x.run(2, 1), 0);
        Due.is("only those that took one", x.count(7), 2);
        Due.is("the round is the latest", x.undo(), 1);
        Due.is("the round is the latest", x.count(3), 2);
        Due.is("200 at once are one", x.run(2, 200), 1);
        Due.is("undo", x.undo(), 1);
        WalkedRounds y = Due.withNodes(1);
        y.arc(0, 0, 0);
        y.act(2, Due.join(y, 8, Due.state(y, 0), Due.number(y, 1)));
        Due.is("200", y.run(2, 200), 200);
        Due.is("a walk of 200 is one", y.undo(), 0);
        Due.is("all of it is undone", y.state(0, 0), 0);
        y.act(3, Due.division(y));
        Due.is("the first one fails", y.run(2, 9), 0);
        Due.is("nothing can be undone", y.undo(), NONE);
        y.act(3, NONE);
        y.act(4, Due.join(y, 11, 0, Due.join(y, 9, Due.number(y, 3), Due.state(y, 0))));
        Due.is("the fourth one fails", y.run(2, 9), 3);
        Due.is("three are undone", y.undo(), 0);
        Due.is("three are undone", y.state(0, 0), 0);
    }

    private static void noneCanBe() {
        Sentence.of(10, "NONE: none can be:");
        WalkedRounds x = new WalkedRounds();
        Due.is("nothing yet", x.undo(), NONE);
        x.node();
        Due.is("no round yet", x.undo(), NONE);
        Due.is("round", x.run(0, 1), 1);
        Due.is("undo", x.undo(), 0);
        for (int i = 0; i < 9; i++) Due.is("again", x.undo(), NONE);
        Due.is("none", x.count(7), 0);
        Due.is("rounds", x.count(3), 0);
        x.wake(0, false);
        Due.is("none is awake", x.run(0, 5), 0);
        Due.is("no round", x.undo(), NONE);
        x.wake(0, true);
        x.act(2, Due.division(x));
        Due.is("fails", x.run(0, 5), 0);
        Due.is("one that failed", x.undo(), NONE);
    }

    private static void atMostSix() {
        Sentence.of(10, "at most the latest 6 can,");
        for (int rounds = 5; rounds < 23; rounds++) {
            WalkedRounds x = counter();
            Due.is("rounds", x.run(0, rounds), rounds);
            int can = Math.min(rounds, 6);
            Due.is("count(7)", x.count(7), can);
            for (int i = 1; i <= can; i++) {
                Due.is("undo", x.undo(), can - i);
                Due.states("back", x, 0, rounds - i, rounds - i);
            }
            Due.is("no more", x.undo(), NONE);
            Due.states("back", x, 0, rounds - can, rounds - can);
        }
        WalkedRounds x = counter();
        Due.is("rounds", x.run(0, 9), 9);
        for (int i = 0; i < 4; i++) x.undo();
        Due.is("two are left, three come", x.run(1, 3), 3);
        Due.is("five", x.count(7), 5);
        for (int i = 0; i < 3; i++) Due.is("walks", x.run(2, 1), 1);
        Due.is("six again", x.count(7), 6);
        for (int left = 5; left >= 0; left--) Due.is("undo", x.undo(), left);
        Due.is("no more", x.undo(), NONE);
        Due.is("two of the nine, three and three: rounds ahead of the latest six", x.count(3), 5);
        failuresTakeNoPlace();
    }

    private static void failuresTakeNoPlace() {
        WalkedRounds x = counter();
        x.act(6, Due.join(x, 11, 0, Due.join(x, 9, Due.leaf(x, 5), Due.number(x, 9))));
        Due.is("the 9th fails", x.run(0, 50), 8);
        for (int i = 0; i < 9; i++) Due.is("again", x.run(i % 2, 50), 0);
        Due.is("six can be", x.count(7), 6);
        for (int left = 5; left >= 0; left--) {
            Due.is("undo", x.undo(), left);
            Due.states("back", x, 0, 2 + left, 2 + left);
        }
    }

    private static void change(WalkedRounds x, int call) {
        switch (call) {
            case 0: x.node(); break;
            case 1: x.arc(0, 0, 1); break;
            case 2: x.put(0, 2, 9); break;
            case 3: x.put(0, 0, x.state(0, 0)); break;
            case 4: x.wake(0, false); break;
            case 5: x.wake(0, true); break;
            case 6: x.act(0, 0); break;
            case 7: x.act(0, NONE); break;
            case 8: x.fold(1); break;
            default: x.fold(0); break;
        }
    }

    private static void onlyThoseSince() {
        Sentence.of(10, "and only those since the latest node(), arc(), put(), wake(), act(), fold() that was not"
            + " refused.");
        for (int call = 0; call < 10; call++) {
            WalkedRounds x = counter();
            Due.is("rounds", x.run(0, 3), 3);
            change(x, call);
            Due.is("none after change " + call, x.count(7), 0);
            Due.is("none after change " + call, x.undo(), NONE);
            Due.is("rounds stay", x.count(3), 3);
            Due.is("two since", x.run(1, 2), 2);
            Due.is("undo", x.undo(), 1);
            Due.is("undo", x.undo(), 0);
            Due.is("no more", x.undo(), NONE);
            Due.is("rounds", x.count(3), 3);
        }
    }

    private static void refusedOnesEndNothing() {
        Sentence.of(10, "that was not refused.");
        WalkedRounds x = counter();
        for (int i = 2; i < 12; i++) x.node();
        for (int i = 1; i < 40; i++) x.arc(0, 1, 1);
        Due.is("rounds", x.run(0, 3), 3);
        x.node();
        x.arc(0, 1, 0);
        x.arc(12, 0, 0);
        x.put(12, 0, 0);
        x.put(0, 3, 0);
        x.wake(12, true);
        x.wake(-1, false);
        x.act(7, NONE);
        x.act(0, 40);
        x.fold(4);
        x.fold(-1);
        Due.is("refused ones do not", x.count(7), 3);
        x.run(0, 0);
        x.run(3, 1);
        Due.number(x, 1);
        x.term(18, 0, 0, 0, 0);
        x.ask(0, 0, NONE);
        x.ask(40, 0, NONE);
        x.why();
        x.failed(0);
        x.state(0, 0);
        x.whole();
        x.awake(0);
        x.along(0);
        x.message(0);
        Due.is("nor do other calls", x.count(7), 3);
        Due.is("undo", x.undo(), 2);
        Due.is("undo", x.undo(), 1);
        Due.is("undo", x.undo(), 0);
    }

    private static void whatFailedLast() {
        Sentence.of(11, "Of what FAILED last (in run()): 0 the FAILURE (0: the latest run() had none, or there was"
            + " none),");
        WalkedRounds x = Due.withNodes(1);
        Due.is("no run() yet", x.failed(0), 0);
        int bad = Due.division(x), index = Due.index(x);
        x.ask(bad, 0, NONE);
        Due.is("ask() is no run()", x.failed(0), 0);
        x.act(2, bad);
        for (int form = 0; form < 2; form++) {
            Due.is("fails", x.run(form, 1), 0);
            Due.is("DIVISION", x.failed(0), 1);
            x.act(2, index);
            Due.is("it is kept", x.failed(0), 1);
            Due.is("fails", x.run(form, 1), 0);
            Due.is("the latest", x.failed(0), 2);
            x.act(2, NONE);
            Due.is("well", x.run(form, 1), 1);
            Due.is("the latest had none", x.failed(0), 0);
            x.act(2, bad);
        }
        Due.is("fails", x.run(0, 1), 0);
        x.undo();
        x.ask(0, 0, NONE);
        x.put(0, 0, 1);
        x.node();
        Due.is("refused", x.run(0, 51), OUTSIDE);
        Due.is("refused", x.run(3, 1), OUTSIDE);
        Due.is("other calls leave it", x.failed(0), 1);
        Due.is("a walk that takes none", x.run(2, 1), 0);
        Due.is("has none", x.failed(0), 0);
        Due.is("fails", x.run(0, 1), 0);
        x.wake(0, false);
        x.wake(1, false);
        Due.is("none is awake", x.run(1, 1), 0);
        Due.is("has none", x.failed(0), 0);
    }

    private static void noneWhereNothingFailed() {
        Sentence.of(11, "1 the ACT, 2 the NODE, 3 the ARC, 4 the ROUND (1 to 4: NONE where 0 is 0).");
        WalkedRounds x = Due.withNodes(3);
        Due.noFailure("at first", x);
        x.arc(0, 1, 1);
        x.arc(2, 1, 0);
        Due.is("well", x.run(0, 4), 4);
        Due.noFailure("none", x);
        int t = Due.join(x, 11, Due.number(x, 1), Due.leaf(x, 2));
        for (int act = 0; act < 2; act++) {
            x.act(act, t);
            for (int form = 0; form < 3; form++) {
                Due.is("fails", x.run(form, 1), 0);
                Due.failed("form " + form, x, 1, act, 2, 1, 5);
            }
            x.act(act, NONE);
            Due.is("well", x.run(2, 1), 1);
            Due.noFailure("none", x);
        }
        x.act(3, t);
        for (int form = 0; form < 3; form++) {
            Due.is("fails", x.run(form, 1), 0);
            Due.failed("no ARC, form " + form, x, 1, 3, form == 2 ? 1 : 0, NONE, 5);
        }
    }

    private static void failedOutside() {
        Sentence.of(11, "OUTSIDE.");
        WalkedRounds x = Due.withNodes(1);
        for (int failing = 0; failing < 2; failing++) {
            for (int what : new int[] {-1, 5, 6, LOW, HIGH}) Due.is("failed(" + what + ")", x.failed(what), OUTSIDE);
            for (int what = 0; what < 5; what++) Due.holds("failed(" + what + ")", x.failed(what) >= NONE);
            x.act(2, Due.division(x));
            x.run(0, 1);
        }
    }
}
