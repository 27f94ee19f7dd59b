/** Promises 14 to 19: state, whole, awake, along, message, count. */
public final class ReadTest {
    private static final int UNKNOWN = WalkedRounds.UNKNOWN, OUTSIDE = WalkedRounds.OUTSIDE;

    public static void main(String[] args) {
        states();
        awake();
        told();
        counts();
        Due.end();
    }

    private static void states() {
        WalkedRounds x = Due.withNodes(12);
        for (int i = 0; i < 12; i++) for (int k = 0; k < 3; k++) x.put(i, k, 100 * i + k);
        for (int i = 0; i < 12; i++) for (int k = 0; k < 3; k++) Due.is("state", x.state(i, k), 100 * i + k);
        for (int k : new int[] {-1, 3, Integer.MIN_VALUE, Integer.MAX_VALUE}) Due.is("k", x.state(0, k), OUTSIDE);
        for (int i : new int[] {-1, 12, Integer.MIN_VALUE, Integer.MAX_VALUE}) {
            Due.is("node", x.state(i, 0), UNKNOWN);
            Due.is("node ahead of k", x.state(i, 3), UNKNOWN);
        }
    }

    private static void awake() {
        WalkedRounds x = Due.withNodes(2);
        x.wake(1, false);
        Due.awake("one", x, 1, 0);
        for (int i : new int[] {-1, 2, Integer.MIN_VALUE, Integer.MAX_VALUE}) Due.is("node", x.awake(i), UNKNOWN);
    }

    private static void told() {
        WalkedRounds x = Due.withNodes(2);
        x.arc(1, 0, 3);
        x.arc(0, 1, 8);
        int weight = Due.leaf(x, 2);
        x.act(1, weight);
        x.run(0, 1);
        Due.along("pushed", x, 1, 0);
        Due.messages("pushed", x, 8, 3);
        Due.is("along(-1)", x.along(-1), OUTSIDE);
        Due.is("message(-1)", x.message(-1), OUTSIDE);
        Due.is("along(max)", x.along(Integer.MAX_VALUE), OUTSIDE);
        Due.is("message(min)", x.message(Integer.MIN_VALUE), OUTSIDE);
        x.undo();
        Due.along("undone", x, 1, 0);
        x.run(2, 3);
        Due.along("a walk that was later", x, 1, 0, 0);
        Due.messages("a walk that was later", x, 8, 3, 3);
        x.run(1, 1);
        Due.along("a round that was later", x, 0, 1);
        x.act(0, Due.number(x, 0));
        x.run(2, 3);
        Due.along("a walk that took none", x, 0, 1);
        x.run(0, 1);
        Due.along("a round without messages", x);
        x.act(0, weight);
        x.run(0, 3);
        Due.along("the latest round alone", x, 1, 0);
    }

    private static void counts() {
        WalkedRounds x = Due.withNodes(3);
        x.arc(0, 1, 0);
        x.arc(0, 2, 0);
        for (int i = 0; i < 5; i++) Due.number(x, i);
        x.wake(2, false);
        x.act(6, 1);
        x.run(0, 4);
        int[] want = {5, 3, 2, 4, 3, 12, 2, 4};
        for (int what = 0; what < 8; what++) Due.is("count(" + what + ")", x.count(what), want[what]);
        for (int what : new int[] {-1, 8, Integer.MIN_VALUE, Integer.MAX_VALUE}) {
            Due.is("count(" + what + ")", x.count(what), OUTSIDE);
        }
        Due.is("whole()", x.whole(), 3);
    }
}
