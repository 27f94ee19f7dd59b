import java.math.BigInteger;
import java.util.ArrayDeque;
import java.util.ArrayList;
import java.util.Arrays;
import java.util.List;

/** The document told once more, by copies, exceptions and big numbers, to hold the class against. */
final class PlainModel {
    private static final int NONE = -1, UNKNOWN = -101, OUTSIDE = -102, FULL_UP = -103;

    record Term(int kind, int a, int b, int c, long n) {
    }

    record Arc(int from, int to, long weight) {
    }

    record Sent(int arc, long value) {
    }

    record Moment(List<long[]> states, List<Boolean> awake, long whole, int rounds) {
    }

    private static final class Fails extends RuntimeException {
        private static final long serialVersionUID = 1L;
        final int how;

        Fails(int how) {
            super(null, null, false, false);
            this.how = how;
        }
    }

    private final List<Term> terms = new ArrayList<>();
    private final List<Arc> arcs = new ArrayList<>();
    private List<long[]> states = new ArrayList<>();
    private List<Boolean> awake = new ArrayList<>();
    private long whole;
    private int rounds;
    private final int[] acts = {-1, -1, -1, -1, -1, -1, -1};
    private int fold;
    private final ArrayDeque<Moment> past = new ArrayDeque<>();
    private List<Sent> told = List.of();
    private int[] failed = {0, -1, -1, -1, -1};
    private int why, allSteps, left;
    private int nowAct, nowNode, nowArc;
    private List<Long> folded = List.of();
    private long foldedTo;

    private static boolean in(List<?> list, int i) {
        return 0 <= i && i < list.size();
    }

    int term(int kind, int a, int b, int c, long n) {
        if (kind < 0 || kind > 17) return OUTSIDE;
        if (kind >= 8 && !in(terms, a)) return UNKNOWN;
        if (kind >= 8 && kind <= 16 && !in(terms, b)) return UNKNOWN;
        if (kind == 16 && !in(terms, c)) return UNKNOWN;
        if (kind == 1 && (n < 0 || n > 2)) return OUTSIDE;
        if (terms.size() == 40) return FULL_UP;
        terms.add(new Term(kind, a, b, c, n));
        return terms.size() - 1;
    }

    int node() {
        if (states.size() == 12) return FULL_UP;
        past.clear();
        states.add(new long[3]);
        awake.add(true);
        return states.size() - 1;
    }

    int arc(int from, int to, long weight) {
        if (!in(states, from) || !in(states, to)) return UNKNOWN;
        if (arcs.size() == 40) return FULL_UP;
        past.clear();
        arcs.add(new Arc(from, to, weight));
        return arcs.size() - 1;
    }

    int put(int node, int k, long v) {
        if (!in(states, node)) return UNKNOWN;
        if (k < 0 || k > 2) return OUTSIDE;
        past.clear();
        states.get(node)[k] = v;
        return 1;
    }

    int wake(int node, boolean on) {
        if (!in(states, node)) return UNKNOWN;
        past.clear();
        return awake.set(node, on) == on ? 0 : 1;
    }

    int act(int which, int t) {
        if (t != NONE && !in(terms, t)) return UNKNOWN;
        if (which < 0 || which > 6) return OUTSIDE;
        past.clear();
        int was = acts[which];
        acts[which] = t;
        return was;
    }

    int fold(int sort) {
        if (sort < 0 || sort > 3) return OUTSIDE;
        past.clear();
        int was = fold;
        fold = sort;
        return was;
    }

    int run(int form, int n) {
        if (form < 0 || form > 2 || n < 1 || n > (form == 2 ? 200 : 50)) return OUTSIDE;
        failed = new int[] {0, -1, -1, -1, -1};
        if (form == 2) return asTheyCome(n);
        int done = 0;
        while (done < n && awake.contains(true)) {
            Moment before = now();
            left = 3000;
            try {
                round(form);
            } catch (Fails f) {
                keep(f);
                back(before);
                break;
            }
            remember(before);
            done++;
        }
        return done;
    }

    private void keep(Fails f) {
        failed = new int[] {f.how, nowAct, nowNode, nowArc, rounds + 1};
    }

    private Moment now() {
        List<long[]> copy = new ArrayList<>();
        for (long[] s : states) copy.add(s.clone());
        return new Moment(copy, new ArrayList<>(awake), whole, rounds);
    }

    private void back(Moment m) {
        states = m.states;
        awake = m.awake;
        whole = m.whole;
        rounds = m.rounds;
    }

    private void remember(Moment m) {
        past.push(m);
        if (past.size() > 6) past.removeLast();
    }

    private long asked(int act, int node, int arc, long without) {
        if (acts[act] == NONE) return without;
        nowAct = act;
        nowNode = node;
        nowArc = arc;
        return eval(acts[act]);
    }

    private void nothingFolded() {
        folded = List.of();
        foldedTo = 0;
    }

    private void round(int form) {
        List<Sent> sent = new ArrayList<>();
        nothingFolded();
        for (int node = 0; node < states.size(); node++) {
            for (int i = 0; i < arcs.size(); i++) {
                Arc arc = arcs.get(i);
                if ((form == 0 ? arc.from : arc.to) != node || !awake.get(arc.from)) continue;
                if (asked(0, arc.from, i, 1) != 0) sent.add(new Sent(i, asked(1, arc.from, i, 1)));
            }
        }
        List<long[]> fresh = new ArrayList<>();
        List<Boolean> on = new ArrayList<>();
        for (int node = 0; node < states.size(); node++) {
            foldMessages(node, sent);
            fresh.add(states.get(node).clone());
            on.add(awake.get(node));
            if (!awake.get(node) && folded.isEmpty()) continue;
            for (int k = 0; k < 3; k++) fresh.get(node)[k] = asked(2 + k, node, NONE, fresh.get(node)[k]);
            on.set(node, asked(5, node, NONE, 0) == 0);
        }
        nothingFolded();
        states = fresh;
        awake = on;
        long sum = 0;
        for (int node = 0; node < states.size(); node++) sum += asked(6, node, NONE, 0);
        whole = sum;
        rounds++;
        told = sent;
    }

    private void foldMessages(int node, List<Sent> sent) {
        List<Sent> mine = new ArrayList<>();
        for (Sent s : sent) if (arcs.get(s.arc).to == node) mine.add(s);
        mine.sort((p, q) -> Integer.compare(p.arc, q.arc));
        folded = new ArrayList<>();
        for (Sent s : mine) folded.add(s.value);
        foldedTo = 0;
        if (folded.isEmpty()) return;
        if (fold == 3) foldedTo = folded.get(folded.size() - 1);
        if (fold == 1) foldedTo = folded.stream().min(Long::compare).get();
        if (fold == 2) foldedTo = folded.stream().max(Long::compare).get();
        if (fold != 0) return;
        BigInteger sum = BigInteger.ZERO;
        for (long v : folded) {
            sum = sum.add(BigInteger.valueOf(v));
            if (sum.bitLength() < 64) continue;
            nowAct = 7;
            nowNode = node;
            nowArc = NONE;
            throw new Fails(3);
        }
        foldedTo = sum.longValueExact();
    }

    private int asTheyCome(int n) {
        Moment before = now();
        left = 3000;
        nothingFolded();
        ArrayDeque<Sent> line = new ArrayDeque<>();
        List<Sent> taken = new ArrayList<>();
        Moment ahead = now();
        try {
            for (int node = 0; node < states.size(); node++) if (awake.get(node)) sendOn(node, line);
            while (taken.size() < n && !line.isEmpty()) {
                ahead = now();
                Sent s = line.remove();
                int node = arcs.get(s.arc).to;
                folded = List.of(s.value);
                foldedTo = s.value;
                long[] fresh = states.get(node).clone();
                for (int k = 0; k < 3; k++) fresh[k] = asked(2 + k, node, NONE, fresh[k]);
                states.set(node, fresh);
                boolean on = asked(5, node, NONE, 0) == 0;
                nothingFolded();
                if (on) sendOn(node, line);
                taken.add(s);
            }
        } catch (Fails f) {
            keep(f);
            back(ahead);
        }
        if (taken.isEmpty()) return 0;
        told = taken;
        remember(before);
        return taken.size();
    }

    private void sendOn(int node, ArrayDeque<Sent> line) {
        for (int i = 0; i < arcs.size(); i++) {
            if (arcs.get(i).from != node || asked(0, node, i, 1) == 0) continue;
            Sent s = new Sent(i, asked(1, node, i, 1));
            nowAct = 1;
            nowNode = node;
            nowArc = i;
            if (line.size() == 60) throw new Fails(5);
            line.add(s);
        }
    }

    private long eval(int t) {
        if (left == 0) throw new Fails(4);
        left--;
        allSteps++;
        Term x = terms.get(t);
        return switch (x.kind) {
            case 0 -> x.n;
            case 1 -> states.get(nowNode)[(int) x.n];
            case 2 -> nowArc == NONE ? 0 : arcs.get(nowArc).weight;
            case 3 -> foldedTo;
            case 4 -> folded.size();
            case 5 -> rounds + 1;
            case 6 -> arcs.stream().filter(arc -> arc.from == nowNode).count();
            case 7 -> whole;
            case 8 -> eval(x.a) + eval(x.b);
            case 9 -> eval(x.a) - eval(x.b);
            case 10 -> eval(x.a) * eval(x.b);
            case 11, 12 -> divided(x.kind, eval(x.a), eval(x.b));
            case 13 -> Math.min(eval(x.a), eval(x.b));
            case 14 -> Math.max(eval(x.a), eval(x.b));
            case 15 -> eval(x.a) < eval(x.b) ? 1 : 0;
            case 16 -> eval(x.a) != 0 ? eval(x.b) : eval(x.c);
            default -> stateAt((int) eval(x.a));
        };
    }

    private static long divided(int kind, long a, long b) {
        if (b == 0) throw new Fails(1);
        return kind == 11 ? a / b : a % b;
    }

    private long stateAt(int i) {
        if (i < 0 || i > 2) throw new Fails(2);
        return states.get(nowNode)[i];
    }

    int undo() {
        if (past.isEmpty()) return NONE;
        back(past.pop());
        return past.size();
    }

    int failed(int what) {
        return what < 0 || what > 4 ? OUTSIDE : failed[what];
    }

    long ask(int t, int node, int arc) {
        why = 0;
        if (!in(terms, t) || !in(states, node) || arc != NONE && !in(arcs, arc)) return UNKNOWN;
        left = 3000;
        nothingFolded();
        nowNode = node;
        nowArc = arc;
        try {
            return eval(t);
        } catch (Fails f) {
            why = f.how;
            return 0;
        }
    }

    int why() {
        return why;
    }

    long state(int node, int k) {
        if (!in(states, node)) return UNKNOWN;
        return k < 0 || k > 2 ? OUTSIDE : states.get(node)[k];
    }

    long whole() {
        return whole;
    }

    int awake(int node) {
        return !in(states, node) ? UNKNOWN : awake.get(node) ? 1 : 0;
    }

    int along(int i) {
        return in(told, i) ? told.get(i).arc : OUTSIDE;
    }

    long message(int i) {
        return in(told, i) ? told.get(i).value : OUTSIDE;
    }

    int count(int what) {
        int many = (int) awake.stream().filter(on -> on).count();
        List<Integer> all = Arrays.asList(terms.size(), states.size(), arcs.size(), rounds, many, allSteps,
            told.size(), past.size());
        return in(all, what) ? all.get(what) : OUTSIDE;
    }
}
