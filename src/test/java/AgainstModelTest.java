import java.util.Random;

/** Many runs of calls, always the same ones, on the class and on the plain model: each answer must be alike. */
public final class AgainstModelTest {
    private static final long[] NUMBERS = {0, 1, -1, 2, 3, 5, -7, 60, 1L << 32, Long.MAX_VALUE, Long.MIN_VALUE};
    private static final int[] HARMLESS = {8, 9, 10, 13, 14, 15};
    private static final int[] ODD = {-1, -2, 12, 40, Integer.MIN_VALUE, Integer.MAX_VALUE};

    private final Random random;
    private static final int MOST_CALLS = 512, READS = 6;
    private final WalkedRounds x = new WalkedRounds();
    private final PlainModel model = new PlainModel();
    private final int seed;
    private int calls;

    private AgainstModelTest(int seed) {
        this.seed = seed;
        this.random = new Random(seed);
    }

    public static void main(String[] args) {
        int[] failures = new int[6];
        for (int seed = 0; seed < 12000; seed++) {
            AgainstModelTest test = new AgainstModelTest(seed);
            test.build();
            test.goOn(failures);
        }
        for (int i = 0; i < 6; i++) Due.holds("failures of sort " + i + " come up: " + failures[i], failures[i] > 30);
        Due.end();
    }

    /** One call of the class, and what it answered. */
    private void same(String call, long got, long want) {
        calls++;
        Due.is("seed " + seed + ": " + call, got, want);
    }

    private int below(int n) {
        return n < 1 ? 0 : random.nextInt(n);
    }

    /** Mostly one of those that are there; now and then not. */
    private int oneOf(int n) {
        return below(25) == 0 ? ODD[below(ODD.length)] : below(n);
    }

    private long number() {
        return below(3) == 0 ? NUMBERS[below(NUMBERS.length)] : below(9) - 3;
    }

    private void build() {
        int nodes = below(13), arcs = below(41), terms = below(41);
        for (int i = 0; i < nodes; i++) addNode();
        for (int i = 0; i < arcs; i++) addArc();
        for (int i = 0; i < terms; i++) addTerm();
        for (int i = below(6); i > 0; i--) setAct();
    }

    private void addNode() {
        same("node()", x.node(), model.node());
    }

    private void addArc() {
        int from = oneOf(model.count(1)), to = oneOf(model.count(1));
        long weight = number();
        same("arc()", x.arc(from, to, weight), model.arc(from, to, weight));
    }

    private void addTerm() {
        int many = model.count(0);
        int kind = many < 4 ? below(8) : below(40) == 0 ? ODD[below(ODD.length)] : below(18);
        if (isHeavy() && many > 6) kind = HARMLESS[below(HARMLESS.length)];
        int a = part(many), b = part(many), c = part(many);
        long n = kind == 1 && below(15) != 0 ? below(3) : number();
        same("term()", x.term(kind, a, b, c, n), model.term(kind, a, b, c, n));
    }

    /** In some runs parts are among the youngest, so that terms grow heavy. */
    private int part(int many) {
        return isHeavy() && many > 6 ? many - 1 - below(2) : oneOf(many);
    }

    private boolean isHeavy() {
        return seed % 4 == 0;
    }

    private void setAct() {
        int which = oneOf(7), t = below(5) == 0 ? -1 : oneOf(model.count(0));
        same("act()", x.act(which, t), model.act(which, t));
    }

    private void call(int[] failures) {
        switch (below(24)) {
            case 0: addTerm(); break;
            case 1: if (below(8) == 0) addNode(); break;
            case 2: if (below(4) == 0) addArc(); break;
            case 3: putState(); break;
            case 4: case 5: wakeNode(); break;
            case 6: case 7: setAct(); break;
            case 8: setFold(); break;
            case 9: case 10: case 11: same("undo()", x.undo(), model.undo()); break;
            case 12: case 13: case 14: askTerm(); break;
            default: walk(failures);
        }
    }

    private void putState() {
        int node = oneOf(model.count(1)), k = oneOf(3);
        long v = number();
        same("put()", x.put(node, k, v), model.put(node, k, v));
    }

    private void wakeNode() {
        int node = oneOf(model.count(1));
        boolean on = below(3) > 0;
        same("wake()", x.wake(node, on), model.wake(node, on));
    }

    private void setFold() {
        int sort = oneOf(4);
        same("fold()", x.fold(sort), model.fold(sort));
    }

    private void askTerm() {
        int t = oneOf(model.count(0)), node = oneOf(model.count(1)), arc = below(3) == 0 ? -1 : oneOf(model.count(2));
        same("ask()", x.ask(t, node, arc), model.ask(t, node, arc));
    }

    private void walk(int[] failures) {
        int form = below(40) == 0 ? ODD[below(ODD.length)] : below(3);
        int n = below(4) == 0 ? below(210) : 1 + below(4);
        same("run(" + form + ", " + n + ")", x.run(form, n), model.run(form, n));
        failures[model.failed(0)]++;
    }

    /** In odd runs a few reads after each call; in even ones all that there is to read, after fewer calls. */
    private void goOn(int[] failures) {
        while (calls < MOST_CALLS) {
            call(failures);
            if (seed % 2 == 0) readAll();
            else for (int i = 0; i < READS && calls < MOST_CALLS; i++) readOne();
        }
    }

    private void readAll() {
        int reads = 10 + 7 + 2 + (model.count(1) + 2) * 6 + (model.count(6) + 2) * 2;
        if (calls + reads > MOST_CALLS) {
            if (calls < MOST_CALLS) readOne();
            return;
        }
        for (int i = -1; i < 9; i++) readCount(i);
        for (int i = -1; i < 6; i++) readFailed(i);
        same("why()", x.why(), model.why());
        same("whole()", x.whole(), model.whole());
        for (int i = -1; i <= model.count(1); i++) {
            readAwake(i);
            for (int k = -1; k < 4; k++) readState(i, k);
        }
        for (int i = -1; i <= model.count(6); i++) {
            readAlong(i);
            readMessage(i);
        }
    }

    private void readOne() {
        switch (below(12)) {
            case 0: same("why()", x.why(), model.why()); break;
            case 1: same("whole()", x.whole(), model.whole()); break;
            case 2: case 3: readCount(below(10) - 1); break;
            case 4: case 5: readFailed(below(7) - 1); break;
            case 6: readAwake(oneOf(model.count(1))); break;
            case 7: readAlong(oneOf(model.count(6))); break;
            case 8: readMessage(oneOf(model.count(6))); break;
            default: readState(oneOf(model.count(1)), oneOf(3));
        }
    }

    private void readCount(int what) {
        same("count(" + what + ")", x.count(what), model.count(what));
    }

    private void readFailed(int what) {
        same("failed(" + what + ")", x.failed(what), model.failed(what));
    }

    private void readAwake(int node) {
        same("awake(" + node + ")", x.awake(node), model.awake(node));
    }

    private void readState(int node, int k) {
        same("state(" + node + ", " + k + ")", x.state(node, k), model.state(node, k));
    }

    private void readAlong(int i) {
        same("along(" + i + ")", x.along(i), model.along(i));
    }

    private void readMessage(int i) {
        same("message(" + i + ")", x.message(i), model.message(i));
    }
}
