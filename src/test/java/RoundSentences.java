/** What the document says of A ROUND. */
final class RoundSentences {
    private static final int NONE = WalkedRounds.NONE;
    private static final long MIN = Long.MIN_VALUE, MAX = Long.MAX_VALUE;

    private RoundSentences() {
    }

    static void test() {
        noneIsAwake();
        pushed();
        sendAndMessage();
        pulled();
        whoIsAsked();
        newAndHalt();
        allAtOnce();
        thoseWithoutStay();
        awakeUnlessHalted();
        parts();
        done();
        fails();
        spent();
        stepsStay();
        whatFailed();
    }

    private static void noneIsAwake() {
        Sentence.of(9, "A ROUND (none, if no NODE is AWAKE):");
        for (int form = 0; form < 2; form++) {
            WalkedRounds x = new WalkedRounds();
            Due.is("no nodes", x.run(form, 50), 0);
            for (int i = 0; i < 12; i++) x.node();
            x.act(6, Due.number(x, 1));
            for (int i = 0; i < 12; i++) x.wake(i, false);
            Due.is("all asleep", x.run(form, 50), 0);
            Due.is("no round", x.count(3), 0);
            Due.is("no PART", x.whole(), 0);
            Due.is("nothing to undo", x.undo(), NONE);
            x.wake(11, true);
            Due.is("the last one is awake", x.run(form, 50), 50);
        }
    }

    /** Arcs against the order of nodes; node 1 sleeps. */
    private static WalkedRounds crossed() {
        WalkedRounds x = Due.withNodes(4);
        x.arc(3, 0, 10);
        x.arc(2, 3, 20);
        x.arc(1, 0, 30);
        x.arc(0, 3, 40);
        x.arc(3, 1, 50);
        x.arc(0, 0, 60);
        x.wake(1, false);
        for (int i = 0; i < 4; i++) x.put(i, 1, i);
        return x;
    }

    private static void pushed() {
        Sentence.of(9, "PUSHED: for each NODE that is AWAKE, in order, for each ARC from it, in order: SEND is asked of"
            + " it and the ARC;");
        WalkedRounds x = crossed();
        int all = Due.join(x, 8, Due.leaf(x, 2), Due.state(x, 1));
        x.act(1, all);
        Due.is("round", x.run(0, 1), 1);
        Due.along("order", x, 3, 5, 1, 0, 4);
        Due.messages("asked of the sender and the ARC", x, 40, 60, 22, 13, 53);
        x.act(0, Due.join(x, 9, all, Due.number(x, 22)));
        x.wake(1, false);
        Due.is("round", x.run(0, 1), 1);
        Due.along("SEND comes to 0 for ARC 1 at node 2", x, 3, 5, 0, 4);
    }

    private static void sendAndMessage() {
        Sentence.of(9, "if that is not 0, or there is none, MESSAGE is (1 without one), and goes along the ARC.");
        for (long send : new long[] {0, 1, -1, MIN, MAX, 1L << 32}) {
            for (int form = 0; form < 3; form++) {
                WalkedRounds x = Due.withNodes(2);
                x.arc(0, 1, 0);
                x.act(0, Due.number(x, send));
                x.act(1, Due.number(x, MIN));
                int before = x.count(5);
                Due.is("walk", x.run(form, 1), form == 2 && send == 0 ? 0 : 1);
                if (send == 0) Due.messages("SEND is 0", x);
                else Due.messages("SEND is " + send, x, MIN);
                Due.is("MESSAGE is asked then alone", x.count(5) - before, send == 0 ? 1 : 2);
                x.act(1, NONE);
                x.act(0, NONE);
                Due.is("walk", x.run(form, 1), 1);
                Due.messages("without SEND and MESSAGE", x, 1);
            }
        }
        WalkedRounds x = Due.withNodes(2);
        x.arc(0, 1, 0);
        x.act(1, Due.number(x, 0));
        x.act(2, Due.leaf(x, 4));
        Due.is("round", x.run(0, 1), 1);
        Due.messages("a MESSAGE of 0 goes too", x, 0);
        Due.is("and is counted", x.state(1, 0), 1);
    }

    private static void pulled() {
        Sentence.of(9, "PULLED: for each NODE, in order, for each ARC to it, in order, from one that is AWAKE: likewise"
            + " (asked of that one and the ARC).");
        WalkedRounds x = crossed();
        int all = Due.join(x, 8, Due.leaf(x, 2), Due.state(x, 1));
        x.act(1, all);
        Due.is("round", x.run(1, 1), 1);
        Due.along("order", x, 0, 5, 4, 1, 3);
        Due.messages("asked of the sender and the ARC", x, 13, 60, 53, 22, 40);
        Due.awake("one that slept is sent to", x, 1, 1, 1, 1);
        x.wake(1, false);
        x.act(0, Due.join(x, 9, all, Due.number(x, 22)));
        Due.is("round", x.run(1, 1), 1);
        Due.along("SEND comes to 0 for ARC 1 at node 2", x, 0, 5, 4, 3);
        x.act(0, Due.join(x, 11, all, Due.join(x, 9, all, Due.number(x, 22))));
        Due.is("round", x.run(1, 1), 0);
        Due.failed("asked of node 2 and ARC 1", x, 1, 0, 2, 1, 3);
    }

    private static void whoIsAsked() {
        Sentence.of(9, "Then for each NODE that is AWAKE, or to which a message goes, in order: its messages are"
            + " FOLDED;");
        for (int form = 0; form < 2; form++) {
            WalkedRounds x = Due.withNodes(4);
            x.arc(0, 3, 6);
            x.arc(2, 3, 7);
            x.arc(2, 1, 8);
            x.wake(1, false);
            x.wake(2, false);
            x.wake(3, false);
            x.act(1, Due.leaf(x, 2));
            x.act(2, Due.join(x, 8, Due.leaf(x, 3), Due.number(x, 100)));
            int before = x.count(5);
            Due.is("round", x.run(form, 1), 1);
            Due.states("awake, asleep, asleep, sent to", x, 0, 100, 0, 0, 106);
            Due.is("two are asked", x.count(5) - before, 1 + 2 * 3);
            Due.awake("the one sent to wakes", x, 1, 0, 0, 1);
        }
        WalkedRounds x = Due.withNodes(2);
        x.arc(0, 0, MAX);
        x.arc(0, 0, MAX);
        x.arc(0, 1, MAX);
        x.arc(0, 1, MAX);
        x.act(1, Due.leaf(x, 2));
        x.act(4, Due.division(x));
        Due.is("round", x.run(0, 1), 0);
        Due.failed("node 0 is FOLDED for first, and ahead of NEW", x, 3, 7, 0, NONE, 1);
        x = Due.withNodes(2);
        x.arc(0, 1, MAX);
        x.arc(0, 1, MAX);
        x.act(1, Due.leaf(x, 2));
        x.act(4, Due.division(x));
        Due.is("round", x.run(0, 1), 0);
        Due.failed("NEW of node 0 is ahead of FOLD for node 1", x, 1, 4, 0, NONE, 1);
        messagesOfThisRoundAlone();
    }

    private static void messagesOfThisRoundAlone() {
        for (int form = 0; form < 2; form++) {
            WalkedRounds x = Due.withNodes(2);
            for (int i = 0; i < 40; i++) x.arc(0, 1, i % 39);
            int round = Due.leaf(x, 5), s = Due.state(x, 0), zero = Due.number(x, 0);
            // In ROUND 1 all are sent, in ROUND 2 those of a weight, in ROUND 3 none.
            int few = Due.choose(x, Due.join(x, 9, round, Due.number(x, 3)), Due.leaf(x, 2), zero);
            x.act(0, Due.choose(x, Due.join(x, 9, round, Due.number(x, 1)), few, round));
            x.act(2, Due.leaf(x, 4));
            int[] many = {40, 38, 0};
            for (int i = 0; i < 3; i++) {
                Due.is("round", x.run(form, 1), 1);
                Due.is("messages of this round", x.count(6), many[i]);
                Due.states("messages of this round", x, 0, 0, many[i]);
            }
            x.act(0, NONE);
            x.act(6, Due.join(x, 11, s, zero));
            Due.is("PART fails", x.run(form, 1), 0);
            x.act(6, NONE);
            x.act(0, zero);
            x.wake(1, false);
            x.put(1, 0, 77);
            Due.is("after a failure", x.run(form, 1), 1);
            Due.awake("no message of the one that failed", x, 1, 0);
            Due.states("no message of the one that failed", x, 0, 0, 77);
        }
    }

    private static void newAndHalt() {
        Sentence.of(9, "NEW 0, 1, 2 and HALT are asked of it (without an ARC).");
        int[] acts = {2, 3, 4, 5};
        for (int i = 0; i < 4; i++) {
            for (int j = i + 1; j < 4; j++) {
                WalkedRounds x = Due.withNodes(2);
                x.arc(0, 1, 5);
                x.act(acts[i], Due.index(x));
                x.act(acts[j], Due.division(x));
                Due.is("round", x.run(0, 1), 0);
                Due.failed("in order", x, 2, acts[i], 0, NONE, 1);
            }
        }
        WalkedRounds x = Due.withNodes(2);
        x.arc(0, 1, 5);
        int weight = Due.leaf(x, 2);
        for (int act = 2; act < 6; act++) x.act(act, weight);
        for (int k = 0; k < 3; k++) x.put(1, k, 9);
        Due.is("round", x.run(0, 1), 1);
        for (int k = 0; k < 3; k++) Due.is("without an ARC", x.state(1, k), 0);
        Due.awake("without an ARC", x, 1, 1);
    }

    private static void allAtOnce() {
        Sentence.of(9, "Then all at once: each of these has the STATES that NEW came to");
        for (int form = 0; form < 2; form++) {
            WalkedRounds x = Due.withNodes(2);
            x.arc(0, 1, 0);
            x.arc(1, 0, 0);
            for (int k = 0; k < 3; k++) x.put(0, k, 1 + k);
            for (int k = 0; k < 3; k++) x.put(1, k, 10 * (1 + k));
            x.act(1, Due.state(x, 0));
            x.act(2, Due.state(x, 2));
            x.act(3, Due.join(x, 8, Due.state(x, 0), Due.leaf(x, 3)));
            x.act(4, Due.state(x, 1));
            x.act(5, Due.join(x, 15, Due.state(x, 0), Due.number(x, 2)));
            Due.is("round", x.run(form, 1), 1);
            Due.states("NEW 0 of old STATES", x, 0, 3, 30);
            Due.states("NEW 1 of old STATES and messages of them", x, 1, 11, 11);
            Due.states("NEW 2 of old STATES", x, 2, 2, 20);
            Due.awake("HALT of old STATES", x, 0, 1);
        }
    }

    private static void thoseWithoutStay() {
        Sentence.of(9, "(those without one stay),");
        for (int k = 0; k < 3; k++) {
            WalkedRounds x = Due.withNodes(2);
            for (int i = 0; i < 3; i++) x.put(1, i, MAX - i);
            x.act(2 + k, Due.number(x, MIN));
            Due.is("round", x.run(0, 1), 1);
            for (int i = 0; i < 3; i++) Due.is("STATE " + i, x.state(1, i), i == k ? MIN : MAX - i);
            x.act(2 + k, NONE);
            x.put(1, k, 4);
            Due.is("round", x.run(1, 1), 1);
            for (int i = 0; i < 3; i++) Due.is("STATE " + i + " stays", x.state(1, i), i == k ? 4 : MAX - i);
        }
    }

    private static void awakeUnlessHalted() {
        Sentence.of(9, "and is AWAKE, unless there is a HALT that came to another number than 0.");
        for (long halt : new long[] {0, 1, -1, MIN, MAX, 1L << 32}) {
            for (int form = 0; form < 2; form++) {
                WalkedRounds x = Due.withNodes(3);
                x.arc(0, 1, 0);
                x.wake(1, false);
                x.wake(2, false);
                x.act(5, Due.number(x, halt));
                Due.is("round", x.run(form, 1), 1);
                int on = halt == 0 ? 1 : 0;
                Due.awake("HALT " + halt + ": awake, sent to, asleep", x, on, on, 0);
            }
        }
        WalkedRounds x = Due.withNodes(3);
        x.arc(0, 1, 0);
        x.wake(1, false);
        x.wake(2, false);
        Due.is("round", x.run(0, 1), 1);
        Due.awake("no HALT", x, 1, 1, 0);
    }

    private static void parts() {
        Sentence.of(15, "Then PART is asked of all NODES, in order: THE WHOLE (0 at first) is their sum (it wraps); 0"
            + " without one.");
        WalkedRounds x = Due.withNodes(12);
        Due.is("at first", x.whole(), 0);
        for (int i = 0; i < 12; i++) x.put(i, 0, 1L << i);
        for (int i = 1; i < 12; i++) x.wake(i, false);
        int s = Due.state(x, 0), one = Due.number(x, 1);
        x.act(2, Due.join(x, 9, s, one));
        x.act(6, s);
        Due.is("round", x.run(0, 1), 1);
        Due.is("new STATES, of all, asleep or not", x.whole(), 4095 - 1);
        x.act(6, Due.number(x, MAX));
        Due.is("round", x.run(1, 1), 1);
        Due.is("12 of the greatest wrap", x.whole(), -12);
        x.act(6, Due.leaf(x, 7));
        Due.is("round", x.run(1, 1), 1);
        Due.is("12 of the elder WHOLE", x.whole(), -144);
        x.act(6, NONE);
        Due.is("round", x.run(1, 1), 1);
        Due.is("0 without one", x.whole(), 0);
        int late = Due.join(x, 9, s, Due.number(x, 64)), later = Due.join(x, 9, s, Due.number(x, 128));
        x.act(6, Due.choose(x, later, Due.join(x, 11, one, late), Due.index(x)));
        Due.is("round", x.run(0, 1), 0);
        Due.failed("in order: node 6 ahead of node 7", x, 1, 6, 6, NONE, 5);
    }

    private static void done() {
        Sentence.of(9, "The ROUND is done.");
        for (int form = 0; form < 2; form++) {
            WalkedRounds x = Due.withNodes(1);
            for (int i = 1; i < 9; i++) {
                Due.is("round", x.run(form, 1), 1);
                Due.is("rounds", x.count(3), i);
                Due.is("can be undone", x.count(7), Math.min(i, 6));
            }
        }
    }

    private static void fails() {
        Sentence.of(9, "As soon as something FAILS,");
        for (int act = 0; act < 7; act++) {
            for (int form = 0; form < 2; form++) {
                WalkedRounds x = Due.withNodes(2);
                x.arc(1, 0, 4);
                x.arc(0, 1, 4);
                int one = Due.number(x, 1);
                x.put(1, 2, 1);
                x.act(6, Due.number(x, 3));
                Due.is("well", x.run(form, 1), 1);
                for (int other = 1; other < 6; other++) x.act(other, one);
                x.act(4, Due.state(x, 2));
                x.act(act, Due.join(x, 12, one, Due.join(x, 9, Due.state(x, 2), one)));
                String before = Seen.of(x);
                Due.is("fails", x.run(form, 9), 0);
                Due.is("DIVISION", x.failed(0), 1);
                Due.is("act", x.failed(1), act);
                Due.is("node 1, where STATE 2 is 1", x.failed(2), 1);
                Due.holds("act " + act + ": all is as it was", Seen.of(x).equals(before));
            }
        }
    }

    /** One node and one arc of its own; a round of the steps told, all but one of them by the act. */
    private static WalkedRounds spending(int act, int steps) {
        WalkedRounds x = Due.withNodes(1);
        x.arc(0, 0, 0);
        int one = Due.number(x, 1);
        x.act(act, Due.ofSteps(x, steps - 1));
        x.act(act == 2 ? 3 : 2, one);
        return x;
    }

    private static void spent() {
        Sentence.of(9, "or a 3001st STEP of the ROUND would come (SPENT),");
        for (int act = 0; act < 7; act++) {
            for (int form = 0; form < 2; form++) {
                WalkedRounds x = spending(act, 3000);
                Due.is("3000 steps", x.run(form, 1), 1);
                Due.is("3000 steps", x.count(5), 3000);
                Due.noFailure("3000 steps", x);
                Due.is("3000 steps a round", x.run(form, 2), 2);
                x = spending(act, 3001);
                Due.is("3001 steps", x.run(form, 50), 0);
                int at = act < 2 ? 2 : act == 2 ? 3 : act;
                Due.failed("3001 steps", x, 4, at, 0, NONE, 1);
                Due.is("the 3001st is not asked", x.count(5), 3000);
            }
        }
        WalkedRounds x = Due.withNodes(1);
        x.arc(0, 0, 0);
        int tooLong = Due.ofSteps(x, 3001);
        x.act(0, tooLong);
        Due.is("SEND alone", x.run(0, 1), 0);
        Due.failed("SEND alone", x, 4, 0, 0, 0, 1);
        x.act(0, NONE);
        x.act(1, tooLong);
        Due.is("MESSAGE alone", x.run(1, 1), 0);
        Due.failed("MESSAGE alone", x, 4, 1, 0, 0, 1);
    }

    private static void stepsStay() {
        Sentence.of(9, "it is not done, and all is as it was ahead of it (STEPS stay counted):");
        for (int form = 0; form < 2; form++) {
            WalkedRounds x = Due.withNodes(3);
            x.arc(0, 1, 2);
            x.arc(1, 2, 3);
            int folded = Due.leaf(x, 3), round = Due.leaf(x, 5), s = Due.state(x, 0);
            x.act(1, Due.leaf(x, 2));
            for (int k = 0; k < 3; k++) x.act(2 + k, Due.join(x, 8, folded, round));
            x.act(5, Due.join(x, 15, Due.number(x, 4), Due.join(x, 8, s, folded)));
            x.act(6, Due.join(x, 8, s, Due.join(x, 11, s, Due.join(x, 9, Due.number(x, 3), round))));
            Due.is("two rounds, the third one fails", x.run(form, 9), 2);
            Due.failed("PART of the first node", x, 1, 6, 0, NONE, 3);
            String before = Seen.of(x);
            int steps = x.count(5);
            Due.is("again", x.run(form, 9), 0);
            Due.failed("PART of the first node", x, 1, 6, 0, NONE, 3);
            Due.holds("all is as it was", Seen.of(x).equals(before));
            Due.holds("steps are counted", x.count(5) > steps + 20);
            Due.is("two can be undone", x.undo(), 1);
            Due.is("and gone on with", x.run(form, 9), 1);
            Due.holds("all is as it was", Seen.of(x).equals(before));
        }
    }

    private static void whatFailed() {
        Sentence.of(11, "what FAILED is kept: the FAILURE, the ACT (FOLD is 7), the NODE that was asked, the ARC (NONE),"
            + " the ROUND (how many were done, and 1).");
        for (int act = 0; act < 8; act++) {
            for (int form = 0; form < 2; form++) {
                WalkedRounds x = Due.withNodes(12);
                x.arc(3, 11, MAX);
                x.arc(11, 3, 1);
                x.arc(3, 11, MAX);
                for (int i = 0; i < 11; i++) if (i != 3) x.wake(i, false);
                Due.is("49 rounds", x.run(form, 49), 49);
                int weight = Due.leaf(x, 2), one = Due.number(x, 1), last = Due.leaf(x, 6);
                int bad = Due.join(x, 12, one, Due.join(x, 9, last, one));
                x.act(act == 7 ? 1 : act, act == 7 ? weight : bad);
                Due.is("fails", x.run(form, 1), 0);
                Due.failed("act " + act, x, act == 7 ? 3 : 1, act, 11, act < 2 ? 1 : NONE, 50);
            }
        }
    }
}
