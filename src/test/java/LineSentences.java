/** What the document says of walks AS THEY COME. */
final class LineSentences {
    private static final int NONE = WalkedRounds.NONE;
    private static final long MIN = Long.MIN_VALUE, MAX = Long.MAX_VALUE;

    private LineSentences() {
    }

    static void test() {
        nothingAtFirst();
        sendsOn();
        asAbove();
        sixtyAtMost();
        fullIsOfMessage();
        asOftenAsTold();
        firstIsTaken();
        aloneFolded();
        newStates();
        halt();
        sendsOnUnlessHalted();
        nothingFoldedThere();
        lost();
        stays();
        fails();
        spent();
    }

    private static void nothingAtFirst() {
        Sentence.of(9, "AS THEY COME: THE LINE has nothing at first.");
        WalkedRounds x = new WalkedRounds();
        Due.is("no nodes", x.run(2, 200), 0);
        for (int i = 0; i < 2; i++) x.node();
        Due.is("no arcs", x.run(2, 200), 0);
        x.arc(0, 1, 0);
        x.arc(0, 1, 0);
        Due.is("one of two is taken", x.run(2, 1), 1);
        Due.is("the other is not in the next line", x.run(2, 200), 2);
        x.run(0, 1);
        Due.is("nor are a round's", x.run(2, 200), 2);
        x.wake(0, false);
        x.wake(1, false);
        Due.is("none is awake", x.run(2, 200), 0);
        Due.noFailure("none is awake", x);
    }

    private static void sendsOn() {
        Sentence.of(9, "Each NODE that is AWAKE, in order, SENDS ON: for each ARC from it, in order:");
        WalkedRounds x = Due.withNodes(4);
        x.arc(3, 1, 10);
        x.arc(2, 1, 20);
        x.arc(0, 1, 30);
        x.arc(3, 1, 40);
        x.arc(0, 1, 50);
        x.wake(2, false);
        x.act(1, Due.leaf(x, 2));
        Due.is("nodes in order, arcs in order", x.run(2, 200), 4);
        Due.along("node 2 sleeps", x, 2, 4, 0, 3);
        Due.messages("node 2 sleeps", x, 30, 50, 10, 40);
    }

    private static void asAbove() {
        Sentence.of(9, "SEND, MESSAGE as above,");
        WalkedRounds x = Due.withNodes(3);
        x.arc(0, 2, 0);
        x.arc(0, 2, MIN);
        x.arc(1, 2, -1);
        x.put(1, 0, 6);
        int weight = Due.leaf(x, 2), s = Due.state(x, 0);
        x.act(0, weight);
        Due.is("SEND of 0", x.run(2, 200), 2);
        Due.along("SEND of 0", x, 1, 2);
        Due.messages("1 without a MESSAGE", x, 1, 1);
        Due.is("MESSAGE is not asked", x.count(5), 3);
        x.act(1, Due.join(x, 8, weight, s));
        Due.is("asked of the sender and the ARC", x.run(2, 200), 2);
        Due.messages("asked of the sender and the ARC", x, MIN, 5);
        x.act(1, Due.join(x, 8, weight, Due.join(x, 11, weight, Due.join(x, 9, s, Due.number(x, 6)))));
        Due.is("MESSAGE fails", x.run(2, 200), 0);
        Due.failed("MESSAGE fails", x, 1, 1, 1, 2, 1);
        x.act(0, x.count(0) - 1);
        Due.is("SEND fails", x.run(2, 200), 0);
        Due.failed("SEND fails", x, 1, 0, 1, 2, 1);
    }

    /** So many messages at the start, none sent on. */
    private static WalkedRounds starting(int many) {
        WalkedRounds x = Due.withNodes(2);
        for (int i = 0; i < many; i++) x.arc(0, 1, i);
        x.act(1, Due.leaf(x, 2));
        return x;
    }

    private static void sixtyAtMost() {
        Sentence.of(9, "but what is sent comes to the end of THE LINE (60 at most: FULL,");
        WalkedRounds x = starting(40);
        Due.is("40 at the start", x.run(2, 200), 40);
        Due.is("the last", x.message(39), 39);
        // Two at the start, and one more after each that is taken: 60 when 58 were taken.
        x = Due.withNodes(1);
        x.arc(0, 0, 5);
        x.arc(0, 0, 6);
        x.act(1, Due.leaf(x, 2));
        Due.is("60 are not too many", x.run(2, 58), 58);
        Due.noFailure("60 are not too many", x);
        for (int i = 0; i < 58; i++) Due.is("message " + i, x.message(i), 5 + i % 2);
        Due.is("61 are", x.run(2, 59), 58);
        Due.is("FULL", x.failed(0), 5);
        // One node sends 20 at the start, to one that sends 20 on: 19 + 20 + 20 is 59, and 58 + 20 too many.
        x = Due.withNodes(2);
        for (int i = 0; i < 20; i++) x.arc(0, 1, i);
        for (int i = 0; i < 20; i++) x.arc(1, 1, 100 + i);
        x.wake(1, false);
        Due.is("20, 39, 58", x.run(2, 200), 2);
        Due.failed("the third one finds room for 3 more", x, 5, 1, 1, 23, 1);
        // The line goes round: what is taken makes room.
        x = Due.withNodes(1);
        x.arc(0, 0, 0);
        x.put(0, 0, -1);
        int s = Due.state(x, 0), one = Due.number(x, 1);
        x.act(1, s);
        x.act(2, Due.join(x, 8, s, one));
        Due.is("200 by a line of one", x.run(2, 200), 200);
        for (int i = 0; i < 200; i++) Due.is("message " + i, x.message(i), i - 1);
    }

    private static void fullIsOfMessage() {
        Sentence.of(9, "as a FAILURE of MESSAGE).");
        WalkedRounds x = Due.withNodes(1);
        x.arc(0, 0, 5);
        x.arc(0, 0, 6);
        int one = Due.number(x, 1), s = Due.state(x, 0);
        x.act(2, Due.join(x, 8, s, one));
        Due.is("without a MESSAGE too", x.run(2, 200), 58);
        Due.failed("without a MESSAGE too", x, 5, 1, 0, 1, 1);
        Due.is("58 are done", x.state(0, 0), 58);
        Due.is("round", x.run(0, 3), 3);
        x.put(0, 0, 0);
        int before = x.count(5);
        x.act(1, one);
        Due.is("with one", x.run(2, 200), 58);
        Due.failed("with one", x, 5, 1, 0, 1, 4);
        Due.is("it is asked first", x.count(5) - before, 2 + 58 * 5 + 3 + 2);
        x.put(0, 0, 0);
        int end = Due.join(x, 9, Due.number(x, 59), s), full = Due.join(x, 11, one, end);
        x.act(1, full);
        Due.is("its own failure is told first", x.run(2, 200), 58);
        Due.failed("its own failure is told first", x, 1, 1, 0, 0, 4);
        x.put(0, 0, 0);
        int second = Due.join(x, 9, Due.leaf(x, 2), Due.number(x, 6));
        x.act(1, Due.choose(x, second, one, full));
        Due.is("of the one that finds no room", x.run(2, 200), 58);
        Due.failed("of the one that finds no room", x, 1, 1, 0, 1, 4);
        x.put(0, 0, 0);
        x.act(1, NONE);
        x.act(0, Due.choose(x, end, one, second));
        Due.is("what is not sent needs no room", x.run(2, 59), 59);
        Due.noFailure("what is not sent needs no room", x);
    }

    private static void asOftenAsTold() {
        Sentence.of(9, "Then, as often as told, as long as there is one,");
        int[] told = {1, 2, 39, 40, 41, 200};
        for (int n : told) {
            WalkedRounds x = starting(40);
            Due.is("run(2, " + n + ")", x.run(2, n), Math.min(n, 40));
            Due.is("told", x.count(6), Math.min(n, 40));
        }
    }

    private static void firstIsTaken() {
        Sentence.of(9, "the first message of THE LINE is taken:");
        WalkedRounds x = Due.withNodes(4);
        x.arc(2, 1, 10);
        x.arc(0, 2, 20);
        x.arc(1, 3, 30);
        x.arc(0, 1, 40);
        for (int i = 1; i < 4; i++) x.wake(i, false);
        x.act(1, Due.leaf(x, 2));
        Due.is("first come, first taken", x.run(2, 200), 5);
        Due.along("first come, first taken", x, 1, 3, 0, 2, 2);
        Due.messages("first come, first taken", x, 20, 40, 10, 30, 30);
    }

    private static void aloneFolded() {
        Sentence.of(9, "it alone is FOLDED for the NODE to which it goes;");
        for (int sort = 0; sort < 4; sort++) {
            WalkedRounds x = Due.withNodes(2);
            for (long weight : new long[] {MAX, MAX, MIN, -3}) x.arc(0, 1, weight);
            x.fold(sort);
            x.act(1, Due.leaf(x, 2));
            x.act(2, Due.leaf(x, 3));
            x.act(3, Due.join(x, 8, Due.leaf(x, 4), Due.state(x, 1)));
            Due.is("no LONG", x.run(2, 2), 2);
            Due.states("the second", x, 0, 0, MAX);
            Due.states("one each", x, 1, 0, 2);
            Due.is("all", x.run(2, 9), 4);
            Due.states("the last", x, 0, 0, -3);
            Due.states("one each", x, 1, 0, 6);
        }
    }

    private static void newStates() {
        Sentence.of(9, "NEW 0, 1, 2 are asked of that, then it has these STATES;");
        WalkedRounds x = Due.withNodes(2);
        x.arc(0, 1, 5);
        for (int k = 0; k < 3; k++) x.put(1, k, 10 * (k + 1));
        int weight = Due.leaf(x, 2);
        x.act(2, Due.join(x, 8, Due.state(x, 1), weight));
        x.act(3, Due.state(x, 2));
        x.act(4, Due.state(x, 0));
        Due.is("one", x.run(2, 1), 1);
        for (int k = 0; k < 3; k++) Due.is("of old STATES, without an ARC", x.state(1, k), 10 * ((k + 1) % 3 + 1));
        for (int k = 0; k < 3; k++) Due.is("no other node", x.state(0, k), 0);
        x.act(3, NONE);
        Due.is("one", x.run(2, 1), 1);
        Due.is("without a NEW it stays", x.state(1, 1), 30);
        for (int k = 0; k < 3; k++) {
            WalkedRounds y = Due.withNodes(2);
            y.arc(0, 1, 5);
            for (int later = k; later < 3; later++) y.act(2 + later, later == k ? Due.index(y) : Due.division(y));
            y.act(5, Due.division(y));
            Due.is("fails", y.run(2, 1), 0);
            Due.failed("in order, ahead of HALT", y, 2, 2 + k, 1, NONE, 1);
        }
    }

    private static void halt() {
        Sentence.of(9, "HALT is asked (with the new STATES and what is FOLDED):");
        WalkedRounds x = Due.withNodes(2);
        x.arc(0, 1, 5);
        x.arc(1, 0, 6);
        x.wake(1, false);
        int s = Due.state(x, 2), folded = Due.leaf(x, 3), many = Due.leaf(x, 4), weight = Due.leaf(x, 2);
        x.act(1, weight);
        x.act(4, Due.number(x, 7));
        x.act(5, s);
        Due.is("the new STATE is not 0", x.run(2, 9), 1);
        x.act(5, Due.join(x, 9, s, Due.number(x, 7)));
        Due.is("the new STATE is 7", x.run(2, 9), 9);
        x.act(5, Due.join(x, 9, folded, Due.number(x, 5)));
        Due.is("5 is FOLDED, then 6", x.run(2, 9), 2);
        x.act(5, Due.join(x, 9, many, Due.number(x, 1)));
        Due.is("of one message", x.run(2, 9), 9);
        x.act(5, weight);
        Due.is("without an ARC", x.run(2, 9), 9);
        x.act(5, Due.division(x));
        Due.is("it fails", x.run(2, 9), 0);
        Due.failed("it fails", x, 1, 5, 1, NONE, 1);
    }

    private static void sendsOnUnlessHalted() {
        Sentence.of(9, "it SENDS ON, unless that came to another number than 0");
        for (long halt : new long[] {0, 1, -1, MIN, MAX, 1L << 32}) {
            WalkedRounds x = Due.withNodes(2);
            x.arc(0, 1, 5);
            x.arc(1, 1, 6);
            x.wake(1, false);
            x.act(5, Due.number(x, halt));
            Due.is("HALT " + halt, x.run(2, 30), halt == 0 ? 30 : 1);
        }
        WalkedRounds x = Due.withNodes(2);
        x.arc(0, 1, 5);
        x.arc(1, 1, 6);
        x.wake(1, false);
        Due.is("no HALT", x.run(2, 30), 30);
    }

    private static void nothingFoldedThere() {
        Sentence.of(9, "(FOLDED is nothing there).");
        WalkedRounds x = Due.withNodes(2);
        x.arc(0, 1, 5);
        x.arc(1, 0, 6);
        int folded = Due.leaf(x, 3), many = Due.leaf(x, 4);
        x.act(1, Due.join(x, 8, Due.leaf(x, 2), Due.join(x, 8, folded, many)));
        Due.is("MESSAGE", x.run(2, 4), 4);
        Due.messages("MESSAGE", x, 5, 6, 6, 5);
        x.act(0, Due.join(x, 8, folded, many));
        Due.is("SEND", x.run(2, 4), 0);
    }

    private static void lost() {
        Sentence.of(9, "What was not taken is lost.");
        WalkedRounds x = starting(40);
        x.act(2, Due.leaf(x, 3));
        Due.is("one", x.run(2, 1), 1);
        Due.is("one is told", x.count(6), 1);
        Due.is("the first one anew", x.run(2, 1), 1);
        Due.is("the first one anew", x.along(0), 0);
        x.wake(0, false);
        Due.is("nothing is left of it", x.run(2, 200), 0);
        Due.is("in a round neither", x.run(0, 1), 1);
        Due.is("in a round neither", x.state(1, 0), 0);
    }

    private static void stays() {
        Sentence.of(9, "(Who is AWAKE, THE WHOLE, ROUNDS stay.)");
        WalkedRounds x = Due.withNodes(3);
        x.arc(0, 1, 1);
        x.arc(1, 2, 1);
        x.act(6, Due.number(x, 7));
        Due.is("rounds", x.run(0, 2), 2);
        x.wake(1, false);
        x.wake(2, false);
        int halt = Due.number(x, 1), state = Due.leaf(x, 5);
        x.act(2, state);
        for (int with = 0; with < 2; with++) {
            x.act(5, with == 0 ? NONE : halt);
            Due.is("walk", x.run(2, 5), with == 0 ? 2 : 1);
            Due.awake("who is awake", x, 1, 0, 0);
            Due.is("the whole", x.whole(), 21);
            Due.is("rounds", x.count(3), 2);
            Due.is("still the third", x.state(1, 0), 3);
        }
    }

    private static void fails() {
        Sentence.of(9, "As soon as something FAILS (SPENT as above, of all of this walk), what the message that was"
            + " taken last did is not done, and it ends.");
        for (int act = 0; act < 6; act++) {
            WalkedRounds x = Due.withNodes(3);
            x.arc(0, 1, 1);
            x.arc(1, 2, 1);
            x.arc(2, 0, 1);
            x.arc(2, 1, 1);
            x.wake(1, false);
            x.wake(2, false);
            x.put(2, 2, 5);
            int one = Due.number(x, 1), s = Due.state(x, 0);
            x.act(2, Due.join(x, 8, s, one));
            x.act(3, Due.join(x, 8, s, one));
            // Fails where STATE 2 is 5: at node 2, to which the second message goes.
            int bad = Due.join(x, 12, one, Due.join(x, 9, Due.state(x, 2), Due.number(x, 5)));
            int halting = Due.join(x, 10, bad, Due.number(x, 0));
            x.act(act, act == 5 ? halting : bad);
            Due.is("act " + act, x.run(2, 200), 1);
            Due.failed("act " + act, x, 1, act, 2, act < 2 ? 2 : NONE, 1);
            Due.is("the first is done", x.state(1, 1), 1);
            for (int k = 0; k < 3; k++) Due.is("the second is not", x.state(2, k), k == 2 ? 5 : 0);
            Due.along("the first alone is told", x, 0);
            Due.is("the first can be undone", x.undo(), 0);
            Due.is("undone", x.state(1, 1), 0);
        }
        failsAtTheStart();
    }

    private static void failsAtTheStart() {
        for (int act = 0; act < 2; act++) {
            WalkedRounds x = Due.withNodes(2);
            x.arc(0, 1, 1);
            x.arc(1, 0, 0);
            Due.is("well", x.run(2, 1), 1);
            x.act(act, Due.join(x, 11, Due.number(x, 1), Due.leaf(x, 2)));
            String before = Seen.of(x);
            Due.is("ahead of the first", x.run(2, 200), 0);
            Due.failed("ahead of the first", x, 1, act, 1, 1, 1);
            Due.holds("nothing is done", Seen.of(x).equals(before));
            x.act(act, Due.division(x));
            int steps = x.count(5);
            Due.is("at the first ARC", x.run(2, 200), 0);
            Due.failed("as soon as something fails", x, 1, act, 0, 0, 1);
            Due.is("nothing more is asked", x.count(5) - steps, 3);
            x = Due.withNodes(2);
            x.arc(1, 0, 1);
            x.arc(0, 1, 1);
            x.act(act, Due.division(x));
            Due.is("at the first NODE, the second ARC", x.run(2, 200), 0);
            Due.failed("node 1 is not asked, though ARC 0 is its", x, 1, act, 0, 1, 1);
            Due.is("nothing more is asked", x.count(5), 3);
        }
    }

    private static void spent() {
        Sentence.of(9, "(SPENT as above, of all of this walk)");
        WalkedRounds x = Due.withNodes(1);
        x.arc(0, 0, 0);
        int one = Due.number(x, 1);
        x.act(3, Due.join(x, 8, Due.state(x, 1), one));
        x.act(4, Due.ofSteps(x, 747));
        // 750 a message: four are 3000.
        Due.is("3000 steps", x.run(2, 4), 4);
        Due.noFailure("3000 steps", x);
        Due.is("3000 steps", x.count(5), 3000);
        Due.is("the fifth would take more", x.run(2, 5), 4);
        Due.failed("the fifth would take more", x, 4, 3, 0, NONE, 1);
        Due.is("each walk has its own", x.count(5), 6000);
        Due.is("eight are done", x.state(0, 1), 8);
        x.act(1, one);
        Due.is("one more at the start", x.run(2, 4), 3);
        Due.failed("MESSAGE of the third is the 2254th, NEW 2 of the fourth spends", x, 4, 4, 0, NONE, 1);
        x.act(4, NONE);
        x.act(1, NONE);
        x.act(0, Due.ofSteps(x, 3001));
        Due.is("at the start", x.run(2, 4), 0);
        Due.failed("at the start", x, 4, 0, 0, 0, 1);
        Due.is("3000 were asked", x.count(5), 12000);
    }
}
