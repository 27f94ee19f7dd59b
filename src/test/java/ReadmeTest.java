import java.io.IOException;
import java.nio.file.Files;
import java.nio.file.Path;
import java.util.ArrayList;
import java.util.List;
import java.util.regex.Matcher;
import java.util.regex.Pattern;

/** The calls that README.md shows, made in its order: each must answer what stands beside it there. */
public final class ReadmeTest {
    private static final Pattern SHOWN = Pattern.compile("x\\.(\\w+\\(.*?\\));\\s*// (-?\\d+)\\b.*");
    private static final List<String> CALLS = new ArrayList<>();
    private static final List<Long> ANSWERS = new ArrayList<>();
    private static int next = 0;

    public static void main(String[] args) throws IOException {
        for (String line : Files.readAllLines(Path.of("README.md"))) {
            Matcher shown = SHOWN.matcher(line);
            if (!shown.matches()) {
                Due.holds("a call with its answer: " + line, !line.startsWith("x."));
                continue;
            }
            CALLS.add(shown.group(1));
            ANSWERS.add(Long.valueOf(shown.group(2)));
        }
        WalkedRounds x = new WalkedRounds();
        build(x);
        walk(x);
        fail(x);
        takeAsTheyCome(x);
        Due.is("calls shown", CALLS.size(), next);
        Due.end();
    }

    private static void shown(String call, long got) {
        boolean isNext = next < CALLS.size() && CALLS.get(next).equals(call);
        Due.holds("README.md goes on with " + call, isNext);
        if (isNext) Due.is("README.md: " + call, got, ANSWERS.get(next));
        next++;
    }

    private static void build(WalkedRounds x) {
        shown("node()", x.node());
        shown("node()", x.node());
        shown("arc(0, 1, 5)", x.arc(0, 1, 5));
        shown("term(2, 0, 0, 0, 0)", x.term(2, 0, 0, 0, 0));
        shown("term(3, 0, 0, 0, 0)", x.term(3, 0, 0, 0, 0));
        shown("act(1, 0)", x.act(1, 0));
        shown("act(2, 1)", x.act(2, 1));
    }

    private static void walk(WalkedRounds x) {
        shown("run(0, 1)", x.run(0, 1));
        shown("along(0)", x.along(0));
        shown("message(0)", x.message(0));
        shown("state(1, 0)", x.state(1, 0));
        shown("count(3)", x.count(3));
        shown("undo()", x.undo());
        shown("state(1, 0)", x.state(1, 0));
    }

    private static void fail(WalkedRounds x) {
        shown("term(17, 0, 0, 0, 0)", x.term(17, 0, 0, 0, 0));
        shown("act(1, 2)", x.act(1, 2));
        shown("run(1, 2)", x.run(1, 2));
        for (int i = 0; i < 5; i++) shown("failed(" + i + ")", x.failed(i));
        shown("ask(2, 0, 0)", x.ask(2, 0, 0));
        shown("why()", x.why());
    }

    private static void takeAsTheyCome(WalkedRounds x) {
        shown("act(1, WalkedRounds.NONE)", x.act(1, WalkedRounds.NONE));
        shown("run(2, 10)", x.run(2, 10));
        shown("state(1, 0)", x.state(1, 0));
        shown("wake(7, true)", x.wake(7, true));
    }
}
