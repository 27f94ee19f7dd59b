/** Programs of nodes that are walked in rounds, or message by message; the document's promises say what each call does. */
public final class WalkedRounds {
    public static final int NONE = -1, UNKNOWN = -101, OUTSIDE = -102, FULL_UP = -103;

    private static final int MOST_TERMS = 40, MOST_NODES = 12, MOST_ARCS = 40, STATES = 3;
    private static final int MOST_STEPS = 3000, MOST_IN_LINE = 60, MOST_UNDONE = 6;
    private static final int MOST_ROUNDS = 50, MOST_TAKEN = 200;

    private static final int DIVISION = 1, INDEX = 2, LONG = 3, SPENT = 4, FULL = 5;
    private static final int SEND = 0, MESSAGE = 1, NEW = 2, HALT = 5, PART = 6, ACTS = 7, FOLDING = 7;
    private static final int PUSHED = 0, PULLED = 1, AS_THEY_COME = 2;
    private static final int FOLD_SUM = 0, FOLD_LEAST = 1, FOLD_GREATEST = 2, FOLD_LAST = 3;

    private static final int NUMBER = 0, STATE = 1, WEIGHT = 2, FOLDED = 3, MESSAGES = 4, ROUND = 5;
    private static final int DEGREE = 6, WHOLE = 7, PLUS = 8, MINUS = 9, TIMES = 10, QUOTIENT = 11;
    private static final int REMAINDER = 12, LESSER = 13, GREATER = 14, BELOW = 15, CHOICE = 16, STATE_AT = 17;

    private final Terms terms = new Terms();
    private final Web web = new Web();
    private final Program program = new Program();
    private final Failure failure = new Failure();
    private final Past past = new Past();
    private final Told told = new Told();
    private final Asker asker = new Asker(terms, web);
    private final Actor actor = new Actor(web, program, asker, failure);
    private final RoundWalk roundWalk = new RoundWalk(actor, past, told);
    private final LineWalk lineWalk = new LineWalk(actor, past, told);
    private int whyAsked;

    public WalkedRounds() {
    }

    public int term(int kind, int a, int b, int c, long n) {
        return terms.add(kind, a, b, c, n);
    }

    public int node() {
        return changed(web.addNode());
    }

    public int arc(int from, int to, long weight) {
        return changed(web.addArc(from, to, weight));
    }

    public int put(int node, int k, long v) {
        if (!web.hasNode(node)) return UNKNOWN;
        if (!isState(k)) return OUTSIDE;
        web.states[node * STATES + k] = v;
        return changed(1);
    }

    public int wake(int node, boolean on) {
        if (!web.hasNode(node)) return UNKNOWN;
        int answer = web.awake[node] == on ? 0 : 1;
        web.awake[node] = on;
        return changed(answer);
    }

    public int act(int which, int t) {
        if (t != NONE && !terms.has(t)) return UNKNOWN;
        if (which < 0 || which >= ACTS) return OUTSIDE;
        int before = program.acts[which];
        program.acts[which] = t;
        return changed(before);
    }

    public int fold(int sort) {
        if (sort < FOLD_SUM || sort > FOLD_LAST) return OUTSIDE;
        int before = program.foldSort;
        program.foldSort = sort;
        return changed(before);
    }

    public int run(int form, int n) {
        if (form < PUSHED || form > AS_THEY_COME) return OUTSIDE;
        if (n < 1 || n > (form == AS_THEY_COME ? MOST_TAKEN : MOST_ROUNDS)) return OUTSIDE;
        failure.clear();
        return form == AS_THEY_COME ? lineWalk.walk(n) : roundWalk.walk(form == PULLED, n);
    }

    public int undo() {
        return past.undoLatest(web);
    }

    public int failed(int what) {
        return failure.tell(what);
    }

    public long ask(int t, int node, int arc) {
        whyAsked = 0;
        if (!terms.has(t) || !web.hasNode(node)) return UNKNOWN;
        if (arc != NONE && !web.hasArc(arc)) return UNKNOWN;
        asker.begin();
        long value = asker.valueOf(t, node, arc, 0);
        whyAsked = asker.fault;
        return value;
    }

    public int why() {
        return whyAsked;
    }

    public long state(int node, int k) {
        if (!web.hasNode(node)) return UNKNOWN;
        return isState(k) ? web.states[node * STATES + k] : OUTSIDE;
    }

    public long whole() {
        return web.sum;
    }

    public int awake(int node) {
        if (!web.hasNode(node)) return UNKNOWN;
        return web.awake[node] ? 1 : 0;
    }

    public int along(int i) {
        return told.has(i) ? told.arcs[i] : OUTSIDE;
    }

    public long message(int i) {
        return told.has(i) ? told.values[i] : OUTSIDE;
    }

    public int count(int what) {
        switch (what) {
            case 0: return terms.size;
            case 1: return web.nodes;
            case 2: return web.arcs;
            case 3: return web.rounds;
            case 4: return web.awakeNodes();
            case 5: return asker.allSteps;
            case 6: return told.size;
            case 7: return past.kept;
            default: return OUTSIDE;
        }
    }

    private static boolean isState(long k) {
        return k >= 0 && k < STATES;
    }

    /** A call that was not refused ends what can be undone; a refused one changes nothing. */
    private int changed(int answer) {
        if (answer >= NONE) past.forget();
        return answer;
    }

    /** The terms; parts are always elder, so no chain of parts is longer than the terms are many. */
    private static final class Terms {
        final int[] kinds = new int[MOST_TERMS];
        final int[] partA = new int[MOST_TERMS];
        final int[] partB = new int[MOST_TERMS];
        final int[] partC = new int[MOST_TERMS];
        final long[] numbers = new long[MOST_TERMS];
        int size;

        boolean has(int t) {
            return t >= 0 && t < size;
        }

        int add(int kind, int a, int b, int c, long n) {
            if (kind < NUMBER || kind > STATE_AT) return OUTSIDE;
            int parts = partsOf(kind);
            if (parts > 0 && !has(a)) return UNKNOWN;
            if (parts > 1 && !has(b)) return UNKNOWN;
            if (parts > 2 && !has(c)) return UNKNOWN;
            if (kind == STATE && !isState(n)) return OUTSIDE;
            if (size >= MOST_TERMS) return FULL_UP;
            kinds[size] = kind;
            partA[size] = a;
            partB[size] = b;
            partC[size] = c;
            numbers[size] = n;
            size++;
            return size - 1;
        }

        private static int partsOf(int kind) {
            if (kind < PLUS) return 0;
            if (kind == CHOICE) return 3;
            return kind == STATE_AT ? 1 : 2;
        }
    }

    /** The nodes, the arcs and what rounds have made of them. */
    private static final class Web {
        final long[] states = new long[MOST_NODES * STATES];
        final boolean[] awake = new boolean[MOST_NODES];
        final int[] degrees = new int[MOST_NODES];
        final int[] from = new int[MOST_ARCS];
        final int[] to = new int[MOST_ARCS];
        final long[] weights = new long[MOST_ARCS];
        int nodes, arcs, rounds;
        long sum;

        boolean hasNode(int i) {
            return i >= 0 && i < nodes;
        }

        boolean hasArc(int i) {
            return i >= 0 && i < arcs;
        }

        int addNode() {
            if (nodes >= MOST_NODES) return FULL_UP;
            awake[nodes] = true;
            nodes++;
            return nodes - 1;
        }

        int addArc(int start, int end, long weight) {
            if (!hasNode(start) || !hasNode(end)) return UNKNOWN;
            if (arcs >= MOST_ARCS) return FULL_UP;
            from[arcs] = start;
            to[arcs] = end;
            weights[arcs] = weight;
            degrees[start]++;
            arcs++;
            return arcs - 1;
        }

        int awakeNodes() {
            int many = 0;
            for (int i = 0; i < nodes; i++) {
                if (awake[i]) many++;
            }
            return many;
        }
    }

    /** The acts and the fold. */
    private static final class Program {
        final int[] acts = {NONE, NONE, NONE, NONE, NONE, NONE, NONE};
        int foldSort;
    }

    /** What failed in the latest run. */
    private static final class Failure {
        private int sort, act, node, arc, round;

        void clear() {
            sort = 0;
        }

        boolean is() {
            return sort != 0;
        }

        void keep(int newSort, int newAct, int newNode, int newArc, int newRound) {
            sort = newSort;
            act = newAct;
            node = newNode;
            arc = newArc;
            round = newRound;
        }

        int tell(int what) {
            if (what < 0 || what > 4) return OUTSIDE;
            if (what == 0) return sort;
            if (sort == 0) return NONE;
            switch (what) {
                case 1: return act;
                case 2: return node;
                case 3: return arc;
                default: return round;
            }
        }
    }

    /** What an undone walk gives back. */
    private static final class Memory {
        private final long[] states = new long[MOST_NODES * STATES];
        private final boolean[] awake = new boolean[MOST_NODES];
        private int rounds;
        private long sum;

        void take(Web web) {
            System.arraycopy(web.states, 0, states, 0, states.length);
            for (int i = 0; i < MOST_NODES; i++) awake[i] = web.awake[i];
            rounds = web.rounds;
            sum = web.sum;
        }

        void giveBack(Web web) {
            System.arraycopy(states, 0, web.states, 0, states.length);
            for (int i = 0; i < MOST_NODES; i++) web.awake[i] = awake[i];
            web.rounds = rounds;
            web.sum = sum;
        }
    }

    /** A ring of memories: one more than can be undone, so that a walk that fails does not cost the eldest. */
    private static final class Past {
        private static final int RING = MOST_UNDONE + 1;
        private final Memory[] ring = new Memory[RING];
        private int next;
        int kept;

        Past() {
            for (int i = 0; i < RING; i++) ring[i] = new Memory();
        }

        void mark(Web web) {
            ring[next].take(web);
        }

        void backToMark(Web web) {
            ring[next].giveBack(web);
        }

        void keepMark() {
            next = (next + 1) % RING;
            if (kept < MOST_UNDONE) kept++;
        }

        void forget() {
            kept = 0;
        }

        int undoLatest(Web web) {
            if (kept == 0) return NONE;
            next = (next + RING - 1) % RING;
            kept--;
            ring[next].giveBack(web);
            return kept;
        }
    }

    /** The messages that along() and message() tell. */
    private static final class Told {
        final int[] arcs = new int[MOST_TAKEN];
        final long[] values = new long[MOST_TAKEN];
        int size;

        boolean has(int i) {
            return i >= 0 && i < size;
        }

        void clear() {
            size = 0;
        }

        void add(int arc, long value) {
            if (size >= MOST_TAKEN) return;
            arcs[size] = arc;
            values[size] = value;
            size++;
        }
    }

    /** Asks terms and counts the steps; fault is how the latest asking failed. */
    private static final class Asker {
        private final Terms terms;
        private final Web web;
        private int foldedMessages, steps;
        private long foldedValue;
        int fault, allSteps;

        Asker(Terms terms, Web web) {
            this.terms = terms;
            this.web = web;
        }

        /** A round, a walk as they come and an ask() each have their own 3000 steps. */
        void begin() {
            steps = 0;
            fault = 0;
            setFolded(0, 0);
        }

        void setFolded(long value, int messages) {
            foldedValue = value;
            foldedMessages = messages;
        }

        /** What a term comes to; 0 if it fails. No part is as deep as the terms are many, as parts are elder. */
        private long valueOf(int t, int node, int arc, int level) {
            if (steps >= MOST_STEPS || level >= MOST_TERMS) return fails(SPENT);
            steps++;
            allSteps++;
            int kind = terms.kinds[t];
            if (kind < PLUS) return plainValue(t, node, arc);
            long a = valueOf(terms.partA[t], node, arc, level + 1);
            if (fault != 0) return 0;
            if (kind == STATE_AT) return stateAt(node, (int) a);
            if (kind == CHOICE) return valueOf(a != 0 ? terms.partB[t] : terms.partC[t], node, arc, level + 1);
            long b = valueOf(terms.partB[t], node, arc, level + 1);
            if (fault != 0) return 0;
            return joined(kind, a, b);
        }

        private long plainValue(int t, int node, int arc) {
            switch (terms.kinds[t]) {
                case STATE: return web.states[node * STATES + (int) terms.numbers[t]];
                case WEIGHT: return arc == NONE ? 0 : web.weights[arc];
                case FOLDED: return foldedValue;
                case MESSAGES: return foldedMessages;
                case ROUND: return web.rounds + 1;
                case DEGREE: return web.degrees[node];
                case WHOLE: return web.sum;
                default: return terms.numbers[t];
            }
        }

        private long stateAt(int node, int k) {
            if (k >= 0 && k < STATES) return web.states[node * STATES + k];
            fault = INDEX;
            return 0;
        }

        private long joined(int kind, long a, long b) {
            switch (kind) {
                case PLUS: return a + b;
                case MINUS: return a - b;
                case TIMES: return a * b;
                case LESSER: return a < b ? a : b;
                case GREATER: return a > b ? a : b;
                case BELOW: return a < b ? 1 : 0;
                default: break;
            }
            if (b != 0) return kind == QUOTIENT ? a / b : a % b;
            fault = DIVISION;
            return 0;
        }

        private long fails(int how) {
            fault = how;
            return 0;
        }
    }

    /** Asks the acts of the program, and keeps what failed. */
    private static final class Actor {
        final Web web;
        final Program program;
        final Asker asker;
        final Failure failure;

        Actor(Web web, Program program, Asker asker, Failure failure) {
            this.web = web;
            this.program = program;
            this.asker = asker;
            this.failure = failure;
        }

        /** What an act comes to: the number told for a program without it, 0 if it fails. */
        long comesTo(int act, int node, int arc, long without) {
            int t = program.acts[act];
            if (t == NONE) return without;
            long value = asker.valueOf(t, node, arc, 0);
            if (asker.fault != 0) failure.keep(asker.fault, act, node, arc, web.rounds + 1);
            return value;
        }
    }

    /** Rounds, pushed or pulled. */
    private static final class RoundWalk {
        private final Web web;
        private final Actor actor;
        private final Failure failure;
        private final Past past;
        private final Told told;
        private final int[] sentArcs = new int[MOST_ARCS];
        private final boolean[] carries = new boolean[MOST_ARCS];
        private final long[] carried = new long[MOST_ARCS];
        private final boolean[] reached = new boolean[MOST_NODES];
        private final boolean[] halting = new boolean[MOST_NODES];
        private final long[] newStates = new long[MOST_NODES * STATES];
        private int sent;

        RoundWalk(Actor actor, Past past, Told told) {
            this.web = actor.web;
            this.actor = actor;
            this.failure = actor.failure;
            this.past = past;
            this.told = told;
        }

        int walk(boolean pulled, int n) {
            int done = 0;
            while (done < n && web.awakeNodes() > 0 && isDone(pulled)) done++;
            return done;
        }

        private boolean isDone(boolean pulled) {
            past.mark(web);
            begin();
            sendAll(pulled);
            if (!failure.is()) askNodes();
            if (!failure.is()) changeNodes();
            if (!failure.is()) sumParts();
            if (failure.is()) {
                past.backToMark(web);
                return false;
            }
            web.rounds++;
            past.keepMark();
            tellMessages();
            return true;
        }

        private void begin() {
            actor.asker.begin();
            sent = 0;
            for (int i = 0; i < MOST_ARCS; i++) carries[i] = false;
        }

        private void sendAll(boolean pulled) {
            int[] ends = pulled ? web.to : web.from;
            for (int node = 0; node < web.nodes; node++) {
                for (int arc = 0; arc < web.arcs; arc++) {
                    if (ends[arc] == node && web.awake[web.from[arc]]) sendAlong(arc);
                    if (failure.is()) return;
                }
            }
        }

        private void sendAlong(int arc) {
            int node = web.from[arc];
            if (sent >= MOST_ARCS || actor.comesTo(SEND, node, arc, 1) == 0) return;
            carried[arc] = actor.comesTo(MESSAGE, node, arc, 1);
            carries[arc] = true;
            sentArcs[sent] = arc;
            sent++;
        }

        private void askNodes() {
            for (int node = 0; node < web.nodes; node++) {
                int messages = messagesTo(node);
                reached[node] = web.awake[node] || messages > 0;
                if (reached[node]) askNode(node, messages);
                if (failure.is()) return;
            }
        }

        private int messagesTo(int node) {
            int many = 0;
            for (int arc = 0; arc < web.arcs; arc++) {
                if (carries[arc] && web.to[arc] == node) many++;
            }
            return many;
        }

        private void askNode(int node, int messages) {
            actor.asker.setFolded(foldFor(node), messages);
            for (int i = node * STATES; i < node * STATES + STATES; i++) {
                if (failure.is()) return;
                newStates[i] = actor.comesTo(NEW + i % STATES, node, NONE, web.states[i]);
            }
            if (failure.is()) return;
            halting[node] = actor.comesTo(HALT, node, NONE, 0) != 0;
        }

        /** Goes by the numbers of the arcs, not by the order of sending. */
        private long foldFor(int node) {
            long folded = 0;
            boolean first = true;
            for (int arc = 0; arc < web.arcs; arc++) {
                if (!carries[arc] || web.to[arc] != node) continue;
                folded = first ? carried[arc] : foldTwo(folded, carried[arc], node);
                first = false;
                if (failure.is()) return 0;
            }
            return folded;
        }

        private long foldTwo(long folded, long next, int node) {
            switch (actor.program.foldSort) {
                case FOLD_LEAST: return Math.min(folded, next);
                case FOLD_GREATEST: return Math.max(folded, next);
                case FOLD_LAST: return next;
                default: break;
            }
            long sum = folded + next;
            // Only a sum that does not fit has another sign than both of its parts.
            if (((folded ^ sum) & (next ^ sum)) < 0) failure.keep(LONG, FOLDING, node, NONE, web.rounds + 1);
            return sum;
        }

        private void changeNodes() {
            for (int node = 0; node < web.nodes; node++) {
                if (!reached[node]) continue;
                System.arraycopy(newStates, node * STATES, web.states, node * STATES, STATES);
                web.awake[node] = !halting[node];
            }
        }

        /** The whole changes only when all parts are known: a part may ask for the elder whole. */
        private void sumParts() {
            actor.asker.setFolded(0, 0);
            long sum = 0;
            for (int node = 0; node < web.nodes; node++) {
                sum += actor.comesTo(PART, node, NONE, 0);
                if (failure.is()) return;
            }
            web.sum = sum;
        }

        private void tellMessages() {
            told.clear();
            for (int i = 0; i < sent; i++) told.add(sentArcs[i], carried[sentArcs[i]]);
        }
    }

    /** The walk as they come: one line of messages, taken from its start. */
    private static final class LineWalk {
        private final Web web;
        private final Actor actor;
        private final Failure failure;
        private final Past past;
        private final Told told;
        private final int[] arcs = new int[MOST_IN_LINE];
        private final long[] values = new long[MOST_IN_LINE];
        private final long[] newStates = new long[STATES];
        private final long[] oldStates = new long[STATES];
        private int first, size;

        LineWalk(Actor actor, Past past, Told told) {
            this.web = actor.web;
            this.actor = actor;
            this.failure = actor.failure;
            this.past = past;
            this.told = told;
        }

        int walk(int n) {
            past.mark(web);
            actor.asker.begin();
            first = 0;
            size = 0;
            startLine();
            int taken = 0;
            while (taken < n && size > 0 && !failure.is()) {
                int arc = arcs[first];
                long value = values[first];
                if (!isDone(arc, value)) break;
                // What was told before stays till a message is taken and done.
                if (taken == 0) told.clear();
                told.add(arc, value);
                taken++;
            }
            if (taken > 0) past.keepMark();
            return taken;
        }

        private void startLine() {
            for (int node = 0; node < web.nodes; node++) {
                if (web.awake[node]) sendOn(node);
                if (failure.is()) return;
            }
        }

        private void sendOn(int node) {
            for (int arc = 0; arc < web.arcs; arc++) {
                if (web.from[arc] == node) sendAlong(node, arc);
                if (failure.is()) return;
            }
        }

        private void sendAlong(int node, int arc) {
            if (actor.comesTo(SEND, node, arc, 1) == 0) return;
            long value = actor.comesTo(MESSAGE, node, arc, 1);
            if (failure.is()) return;
            if (size >= MOST_IN_LINE) {
                failure.keep(FULL, MESSAGE, node, arc, web.rounds + 1);
                return;
            }
            int end = (first + size) % MOST_IN_LINE;
            arcs[end] = arc;
            values[end] = value;
            size++;
        }

        private boolean isDone(int arc, long value) {
            first = (first + 1) % MOST_IN_LINE;
            size--;
            int node = web.to[arc];
            System.arraycopy(web.states, node * STATES, oldStates, 0, STATES);
            actor.asker.setFolded(value, 1);
            takeStates(node);
            boolean halts = !failure.is() && actor.comesTo(HALT, node, NONE, 0) != 0;
            actor.asker.setFolded(0, 0);
            if (!failure.is() && !halts) sendOn(node);
            if (!failure.is()) return true;
            System.arraycopy(oldStates, 0, web.states, node * STATES, STATES);
            return false;
        }

        private void takeStates(int node) {
            for (int k = 0; k < STATES; k++) {
                newStates[k] = actor.comesTo(NEW + k, node, NONE, oldStates[k]);
                if (failure.is()) return;
            }
            System.arraycopy(newStates, 0, web.states, node * STATES, STATES);
        }
    }
}
