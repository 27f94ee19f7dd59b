/** All that calls tell of an object without changing it, as a text that can be compared. */
final class Seen {
    private Seen() {
    }

    /** Without what a run that fails changes: STEPS, and what FAILED. */
    static String of(WalkedRounds x) {
        StringBuilder s = new StringBuilder();
        for (int what = 0; what < 8; what++) {
            if (what != 5) s.append(" count ").append(x.count(what));
        }
        s.append(" whole ").append(x.whole()).append(" why ").append(x.why());
        for (int i = 0; i < x.count(1); i++) {
            s.append(" node ").append(x.awake(i));
            for (int k = 0; k < 3; k++) s.append(' ').append(x.state(i, k));
        }
        for (int i = 0; i < x.count(6); i++) s.append(" message ").append(x.along(i)).append(' ').append(x.message(i));
        return s.toString();
    }

    static String allOf(WalkedRounds x) {
        StringBuilder s = new StringBuilder(of(x)).append(" steps ").append(x.count(5));
        for (int what = 0; what < 5; what++) s.append(" failed ").append(x.failed(what));
        return s.toString();
    }
}
