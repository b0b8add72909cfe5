import java.util.ArrayList;
import java.util.List;

/**
 * Tells whether a call leaves an object as it was, by what all its methods answer then. Nothing is
 * promised after 512 calls, so each batch of questions goes to an object made anew by the same run.
 */
final class Still {
    interface Run {
        void on(Bench b);
    }

    interface Question {
        Object of(SnippetExpander x);
    }

    private static final int BATCH = 150;
    /** Of long texts the beginning and the end are enough to see a change. */
    private static final int BEGINNING = 40;
    private static final int END = 5;

    private final List<String> names = new ArrayList<>();
    private final List<Question> questions = new ArrayList<>();

    static Bench made(Run run) {
        Bench b = new Bench();
        run.on(b);
        return b;
    }

    /** The run, and this call behind it, however it ends. */
    static Run then(Run run, Question call) {
        return b -> {
            run.on(b);
            Suite.told(() -> call.of(b.x));
        };
    }

    /** The call throws this exception and changes nothing. */
    static void whenThrown(Suite s, String call, Run run, String exception, Question question) {
        Run after = then(run, question);
        s.due(call, "throws." + exception, () -> question.of(made(run).x));
        s.due("accounts after " + call, accounts(run), () -> accounts(after));
        s.due("texts after " + call, texts(run), () -> texts(after));
        same(s, "after " + call, run, after);
    }

    /** The act is refused with this reason and changes nothing but its account. */
    static void whenRefused(Suite s, String call, Run run, int reason, Question act) {
        s.due("texts after " + call, texts(run), () -> texts(then(run, act)));
        refused(s, call, run, reason, act);
    }

    /** The typing is refused with this reason and changes nothing but its account and the buffer. */
    static void whenTypingIsRefused(Suite s, String call, Run run, int reason, Question act) {
        s.due("texts after " + call, texts(then(run, SnippetExpander::find)), () -> texts(then(run, act)));
        refused(s, call, run, reason, act);
    }

    private static void refused(Suite s, String call, Run run, int reason, Question act) {
        Run after = then(run, act);
        s.due(call, -reason, () -> act.of(made(run).x));
        String[] accounts = accounts(run).split(" ");
        accounts[reason] = String.valueOf(Integer.parseInt(accounts[reason]) + 1);
        s.due("accounts after " + call, String.join(" ", accounts), () -> accounts(after));
        same(s, "after " + call, run, after);
    }

    static String accounts(Run run) {
        SnippetExpander x = made(run).x;
        StringBuilder told = new StringBuilder();
        for (int what = 0; what <= 9; what++) {
            told.append(what == 0 ? "" : " ").append(x.account(what));
        }
        return told.toString();
    }

    /** The errors and the buffer. */
    static String texts(Run run) {
        SnippetExpander x = made(run).x;
        return x.errorCode() + " " + x.errorPosition() + " " + x.size(4) + " " + x.load() + " " + x.errorCode() + " "
                + x.errorPosition() + " " + x.size(0);
    }

    /** Both runs end alike in all but the accounts, the errors and the buffer. */
    static void same(Suite s, String what, Run due, Run got) {
        List<Run> dueWays = ways(due);
        List<Run> gotWays = ways(got);
        s.due("ways on " + what, dueWays.size(), gotWays::size);
        for (int i = 0; i < dueWays.size() && i < gotWays.size() && !s.isTestFailed(); i++) {
            Run gotWay = gotWays.get(i);
            s.due("way " + i + " on " + what, told(dueWays.get(i)), () -> told(gotWay));
        }
        for (int slot = 0; slot <= 1; slot++) {
            int asked = slot;
            s.due("restore(" + slot + ") " + what, Suite.told(() -> made(due).x.restore(asked)), () -> made(got).x.restore(asked));
        }
    }

    /** The run, and what can be come by behind it: states to go back to, sessions outside, saved states. */
    private static List<Run> ways(Run run) {
        SnippetExpander x = made(run).x;
        List<Run> ways = new ArrayList<>();
        ways.add(run);
        for (int k = 1; k <= x.size(5); k++) {
            ways.add(repeated(run, k, SnippetExpander::undo));
        }
        for (int k = 1; k < x.size(1); k++) {
            ways.add(repeated(run, k, SnippetExpander::drop));
        }
        ways.add(then(run, y -> y.restore(0)));
        ways.add(then(run, y -> y.restore(1)));
        return ways;
    }

    private static Run repeated(Run run, int times, Question call) {
        return b -> {
            run.on(b);
            for (int i = 0; i < times; i++) {
                call.of(b.x);
            }
        };
    }

    private static String told(Run run) {
        Still still = new Still();
        SnippetExpander x = made(run).x;
        still.askOfLibrary(x.size(0));
        still.askOfState(x);
        if (x.size(1) > 0) {
            still.askOfSession(x, x.session(x.size(1) - 1, 0));
        }
        return still.answers(run);
    }

    private String answers(Run run) {
        StringBuilder told = new StringBuilder();
        Bench b = new Bench();
        for (int i = 0; i < questions.size(); i++) {
            if (i % BATCH == 0) {
                b = made(run);
            }
            SnippetExpander x = b.x;
            Question question = questions.get(i);
            told.append(names.get(i)).append('=').append(Suite.told(() -> question.of(x))).append(' ');
        }
        return told.toString();
    }

    private void ask(String name, Question question) {
        names.add(name);
        questions.add(question);
    }

    private void askOfLibrary(int count) {
        for (int i = 0; i < count; i++) {
            int snippet = i;
            for (int k = 0; k <= 9; k++) {
                int field = k;
                if (k <= 5) {
                    ask("snippet" + i + k, x -> x.snippet(snippet, field));
                    ask("letter" + i + k, x -> x.letter(snippet, field));
                }
                ask("depends" + i + k, x -> x.depends(snippet, field));
            }
            ask("lengthOf" + i, x -> x.lengthOf(snippet));
        }
    }

    private void askOfState(SnippetExpander x) {
        for (int what : new int[] {0, 1, 2, 3, 5}) {
            ask("size" + what, y -> y.size(what));
        }
        for (int i = 0; i <= x.size(2); i = next(i, x.size(2))) {
            int index = i;
            ask("document" + i, y -> y.document(index));
        }
        for (int i = 0; i < x.size(1); i++) {
            int level = i;
            for (int k = 0; k <= 4; k++) {
                int what = k;
                ask("session" + i + k, y -> y.session(level, what));
            }
        }
    }

    private static int next(int index, int length) {
        return index == BEGINNING && length > BEGINNING + END ? length - END : index + 1;
    }

    private void askOfSession(SnippetExpander x, int snippet) {
        for (int i = 0; i < 10; i++) {
            int field = i;
            for (int k = 0; k <= 6; k++) {
                int what = k;
                ask("field" + i + k, y -> y.field(field, what));
            }
            for (int k = 0; k < x.field(i, 5); k = next(k, x.field(i, 5))) {
                int index = k;
                ask("value" + i + "." + k, y -> y.value(field, index));
            }
            ask("why" + i, y -> y.why(field));
            ask("wouldHide" + i, y -> y.wouldHide(field));
            ask("orderAt" + i, y -> y.orderAt(field));
        }
        for (int i = 0; i < x.snippet(snippet, 1); i++) {
            int occurrence = i;
            for (int k = 4; k <= 7; k++) {
                int what = k;
                ask("occurrence" + i + k, y -> y.occurrence(occurrence, what));
            }
        }
        int length = x.session(x.size(1) - 1, 3);
        for (int i = 0; i < length; i = next(i, length)) {
            int index = i;
            ask("text" + i, y -> y.text(index));
        }
        ask("yielded", SnippetExpander::yielded);
        ask("mirrored", SnippetExpander::mirrored);
        ask("longest", SnippetExpander::longest);
        ask("untouched", SnippetExpander::untouched);
        ask("meanLength", SnippetExpander::meanLength);
        ask("lengthIf1", y -> y.lengthIf(1));
        ask("lengthIf20", y -> y.lengthIf(20));
    }
}
