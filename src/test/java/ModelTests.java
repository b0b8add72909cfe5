import java.util.Map;
import java.util.Random;
import java.util.TreeMap;

/** Long runs of calls with fixed seeds, each answer beside the one of the model. */
final class ModelTests {
    private static final int RUNS = 2500;
    private static final int CALLS = 500;
    /** Each call with each way in which it can end; a fuzz that misses one would tell too little. */
    private static final String[] MUST_BE_SEEN = {
        "append throws.IllegalStateException", "error 0", "error 1", "error 2", "error 3", "error 4", "error 5",
        "expand -2", "expand -3", "expand -4", "expand -9",
        "type -1", "type -3", "type -4", "type throws.NoSuchElementException", "type throws.IllegalArgumentException",
        "erase -1", "erase -3", "erase -4", "erase -5", "reset -1", "reset -3", "reset -6",
        "next -1", "next -3", "next -4", "next -9", "next 10", "previous -1", "previous -7", "go -1", "go -8",
        "finish -1", "finish -3", "finish -4", "finish -9", "drop -1",
        "undo throws.IllegalStateException", "restore throws.IllegalStateException",
        "restore throws.IndexOutOfBoundsException", "save throws.IndexOutOfBoundsException",
        "why 0", "why 1", "why 2", "why 3", "why 4", "lengthOf 100000", "lengthIf -1", "wouldHide more",
    };

    private final Suite suite;
    private final Map<String, Integer> seen;
    private final Random random;
    private final Texts texts;
    private final SnippetExpander x = new SnippetExpander();
    private final Model m = new Model();
    private final StringBuilder history = new StringBuilder();
    private int calls;
    private String latest = "";

    private ModelTests(Suite suite, Map<String, Integer> seen, long seed) {
        this.suite = suite;
        this.seen = seen;
        random = new Random(seed);
        texts = new Texts(random);
    }

    static void addTo(Suite suite) {
        suite.test("each beginning of a text", ModelTests::beginnings);
        suite.test("each byte of a text changed", ModelTests::changedBytes);
        suite.test("runs beside the model", s -> {
            Map<String, Integer> seen = new TreeMap<>();
            for (int run = 0; run < RUNS && !s.isTestFailed(); run++) {
                new ModelTests(s, seen, run).run();
            }
            if (System.getProperty("seen") != null) {
                System.out.println(seen);
            }
            for (String must : MUST_BE_SEEN) {
                if (!seen.containsKey(must) && !s.isTestFailed()) {
                    s.complain("no run has " + must);
                }
            }
        });
    }

    /** Also where the text fills the buffer, and behind a text that left its bytes there. */
    private static void beginnings(Suite s) {
        String[] texts = {
            "order places;\nsnippet ab {x${1/u}$${2:y${3:}$}$4${5}}${0/n}} snippet c{}order numbers;",
            "snippet abcdefgh{${1:${2:${3:${4:$5${6/r}}}}}}snippet places{${1/l}${2/f}}",
        };
        for (String text : texts) {
            for (int length = 0; length <= text.length(); length++) {
                String beginning = text.substring(0, length);
                loadBoth(s, text, beginning);
                loadBoth(s, text, " ".repeat(700 - length) + beginning);
            }
        }
    }

    private static void changedBytes(Suite s) {
        String text = "order places;snippet a{x$1${2/u}$${3:y${4:}}$}}snippet b{${5:${6:${7:${8:$9}}}}}";
        String bytes = "$}{:/019u;z \n\t~\u0080";
        for (int at = 0; at < text.length(); at++) {
            for (int k = 0; k < bytes.length(); k++) {
                loadBoth(s, "", text.substring(0, at) + bytes.charAt(k) + text.substring(at + 1));
                loadBoth(s, "", text.substring(0, at) + bytes.charAt(k) + text.substring(at));
            }
            loadBoth(s, "", text.substring(0, at) + text.substring(at + 1));
        }
    }

    private static void loadBoth(Suite s, String before, String text) {
        if (s.isTestFailed()) {
            return;
        }
        Bench b = new Bench();
        b.load(before);
        Model m = new Model();
        for (byte told : Bench.bytesOf(text)) {
            m.append(told & 255, 0, 0, 0, 0);
        }
        s.due("load of " + text, Suite.told(m::load), () -> b.load(text));
        s.due("its error", m.errorCode() + " " + m.errorPosition(), () -> b.x.errorCode() + " " + b.x.errorPosition());
        s.due("its order", m.size(3), () -> b.x.size(3));
        for (int i = 0; i < m.size(0); i++) {
            int snippet = i;
            for (int k = 0; k <= 5; k++) {
                int what = k;
                s.due("snippet(" + i + ", " + k + ")", m.snippet(i, k), () -> b.x.snippet(snippet, what));
            }
        }
    }

    private void run() {
        if (random.nextInt(8) != 0) {
            load();
        }
        int eager = random.nextInt(4);
        while (calls < CALLS && !suite.isTestFailed()) {
            if (isStuck() && random.nextInt(4) == 0) {
                load();
            } else if (random.nextInt(3) != 0) {
                act(eager);
            } else if (random.nextInt(25) == 0) {
                load();
            } else if (random.nextInt(12) == 0) {
                keep();
            } else {
                ask();
            }
        }
    }

    /** Whether there is little left to do: nothing that can be expanded. */
    private boolean isStuck() {
        boolean isRefused = latest.equals("-3") || latest.equals("-9") || latest.startsWith("throws");
        return m.size(0) == 0 || m.size(1) == 0 && isRefused;
    }

    private boolean compare(String name, String call, Suite.Call got, Suite.Call want) {
        if (calls >= CALLS || suite.isTestFailed()) {
            return false;
        }
        calls++;
        String due = Suite.told(want);
        latest = Suite.told(got);
        history.append(call).append(" = ").append(due).append('\n');
        if (!latest.equals(due)) {
            suite.complain(call + " answered " + latest + ", due is " + due + "; the run:\n" + history);
        }
        seen.merge(name + " " + due, 1, Integer::sum);
        return true;
    }

    private void put(String text) {
        byte[] bytes = Bench.bytesOf(text);
        for (int i = 0; i < bytes.length; i += 20) {
            int[] w = new int[5];
            for (int k = 0; k < 20 && i + k < bytes.length; k++) {
                w[k / 4] |= (bytes[i + k] & 255) << 24 - 8 * (k % 4);
            }
            append(w);
        }
    }

    private void append(int[] w) {
        String call = "append(" + w[0] + ", " + w[1] + ", " + w[2] + ", " + w[3] + ", " + w[4] + ")";
        compare("append", call, () -> x.append(w[0], w[1], w[2], w[3], w[4]), () -> m.append(w[0], w[1], w[2], w[3], w[4]));
    }

    private void load() {
        if (m.size(4) > 0 && random.nextInt(4) != 0) {
            compare("find", "find()", x::find, m::find);
        }
        String text = texts.library();
        put(text);
        compare("load", "load()", x::load, m::load);
        compare("errorCode", "errorCode()", x::errorCode, m::errorCode);
        compare("errorPosition", "errorPosition()", x::errorPosition, m::errorPosition);
        seen.merge("error " + m.errorCode(), 1, Integer::sum);
    }

    /** A number that is mostly from 0 up to the end, at times just beyond. */
    private int near(int end) {
        int kind = random.nextInt(40);
        if (kind == 0) {
            return -1;
        }
        if (kind == 1) {
            return end;
        }
        if (kind == 2) {
            return random.nextBoolean() ? Integer.MIN_VALUE : Integer.MAX_VALUE;
        }
        return end <= 0 ? 0 : random.nextInt(end);
    }

    private String typing(int length) {
        StringBuilder text = new StringBuilder();
        for (int i = 0; i < length; i++) {
            int kind = random.nextInt(10);
            if (kind == 0) {
                text.append((char) (1 + random.nextInt(255)));
            } else {
                text.append("abcXYZ19$}".charAt(random.nextInt(10)));
            }
        }
        return text.toString();
    }

    private void type() {
        int bytes = random.nextInt(30) == 0 ? near(21) : 1 + random.nextInt(20);
        int length = random.nextInt(20) == 0 ? random.nextInt(20) : Math.max(0, Math.min(bytes, 20));
        if (random.nextInt(5) == 0) {
            append(new int[] {random.nextInt(), random.nextInt() & 0xff00ff, 0, random.nextInt() & 0xff00ff00, random.nextInt(256)});
        } else {
            put(typing(length));
        }
        compare("type", "type(" + bytes + ")", () -> x.type(bytes), () -> m.type(bytes));
    }

    private void find() {
        if (m.size(0) > 0 && m.size(4) == 0) {
            int chosen = random.nextInt(m.size(0));
            StringBuilder name = new StringBuilder();
            for (int i = 0; i < m.snippet(chosen, 0); i++) {
                name.append((char) m.letter(chosen, i));
            }
            if (random.nextInt(3) == 0) {
                name.append(random.nextBoolean() ? "a" : "");
                name.setLength(Math.max(0, name.length() - random.nextInt(2)));
            }
            put(name.toString());
        }
        compare("find", "find()", x::find, m::find);
    }

    private void act(int eager) {
        boolean isIdle = m.size(1) == 0 && random.nextInt(5) != 0;
        int kind = isIdle ? 0 : random.nextInt(22);
        int a;
        switch (kind) {
            case 0: case 1: case 2: case 3:
                a = near(m.size(0));
                if (m.size(1) == 0 || random.nextInt(2 + eager) == 0) {
                    compare("expand", "expand(" + a + ")", () -> x.expand(a), () -> m.expand(a));
                }
                break;
            case 4: case 5: case 6: case 7: case 8: case 9:
                type();
                break;
            case 10: case 11:
                compare("erase", "erase()", x::erase, m::erase);
                break;
            case 12: case 13:
                compare("reset", "reset()", x::reset, m::reset);
                break;
            case 14: case 15: case 16:
                compare("next", "next()", x::next, m::next);
                break;
            case 17:
                compare("previous", "previous()", x::previous, m::previous);
                break;
            case 18: case 19:
                a = nearField();
                compare("go", "go(" + a + ")", () -> x.go(a), () -> m.go(a));
                break;
            case 20:
                if (random.nextInt(1 + eager) == 0) {
                    compare("finish", "finish()", x::finish, m::finish);
                }
                break;
            default:
                rareAct();
                break;
        }
    }

    private void rareAct() {
        if (random.nextBoolean()) {
            boolean isByPlaces = random.nextBoolean();
            compare("setOrder", "setOrder(" + isByPlaces + ")", () -> x.setOrder(isByPlaces), () -> m.setOrder(isByPlaces));
        } else if (random.nextInt(3) == 0) {
            compare("drop", "drop()", x::drop, m::drop);
        }
    }

    private void keep() {
        int slot = near(2);
        switch (random.nextInt(4)) {
            case 0:
                compare("save", "save(" + slot + ")", () -> x.save(slot), () -> m.save(slot));
                break;
            case 1:
                compare("restore", "restore(" + slot + ")", () -> x.restore(slot), () -> m.restore(slot));
                break;
            default:
                int times = 1 + random.nextInt(random.nextInt(5) == 0 ? 10 : 2);
                for (int i = 0; i < times; i++) {
                    compare("undo", "undo()", x::undo, m::undo);
                }
                break;
        }
    }

    private void ask() {
        boolean isIdle = m.size(1) == 0 && random.nextInt(4) != 0;
        int kind = random.nextInt(isIdle ? 8 : 24);
        if (kind < 8) {
            askOfLibrary(kind);
        } else {
            askOfSession(kind);
        }
    }

    private void askOfLibrary(int kind) {
        int snippet = near(m.size(0));
        int what = near(6);
        int field = near(10);
        int index = near(8);
        int level = near(m.size(1));
        switch (kind) {
            case 0:
                compare("size", "size(" + what + ")", () -> x.size(what), () -> m.size(what));
                break;
            case 1:
                compare("snippet", "snippet(" + snippet + ", " + what + ")", () -> x.snippet(snippet, what), () -> m.snippet(snippet, what));
                break;
            case 2:
                compare("letter", "letter(" + snippet + ", " + index + ")", () -> x.letter(snippet, index), () -> m.letter(snippet, index));
                compare("account", "account(" + field + ")", () -> x.account(field), () -> m.account(field));
                break;
            case 3:
                compare("depends", "depends(" + snippet + ", " + field + ")", () -> x.depends(snippet, field), () -> m.depends(snippet, field));
                break;
            case 4:
                int at = near(m.size(2));
                compare("document", "document(" + at + ")", () -> x.document(at), () -> m.document(at));
                break;
            case 5:
                int asked = near(5);
                compare("session", "session(" + level + ", " + asked + ")", () -> x.session(level, asked), () -> m.session(level, asked));
                break;
            case 6:
                compare("lengthOf", "lengthOf(" + snippet + ")", () -> x.lengthOf(snippet), () -> m.lengthOf(snippet));
                break;
            default:
                find();
                break;
        }
    }

    /** A field, mostly one that occurs in the innermost session. */
    private int nearField() {
        int field = near(10);
        int set = m.size(1) == 0 ? 0 : m.snippet(m.session(m.size(1) - 1, 0), 2);
        for (int tries = 0; tries < 5 && field >= 0 && field < 10 && (set >> field & 1) == 0; tries++) {
            field = near(10);
        }
        return field;
    }

    private void askOfSession(int kind) {
        int field = nearField();
        boolean isOpen = m.size(1) > 0;
        int length = isOpen ? m.session(m.size(1) - 1, 3) : 3;
        int index = near(kind < 12 ? Math.min(length, 6) : length);
        switch (kind) {
            case 8: case 9: case 10:
                int what = near(7);
                compare("field", "field(" + field + ", " + what + ")", () -> x.field(field, what), () -> m.field(field, what));
                break;
            case 11:
                compare("value", "value(" + field + ", " + index + ")", () -> x.value(field, index), () -> m.value(field, index));
                break;
            case 12: case 13: case 14:
                int occurrence = near(isOpen ? m.snippet(m.session(m.size(1) - 1, 0), 1) : 2);
                int told = near(8);
                compare("occurrence", "occurrence(" + occurrence + ", " + told + ")",
                        () -> x.occurrence(occurrence, told), () -> m.occurrence(occurrence, told));
                break;
            case 15:
                compare("text", "text(" + index + ")", () -> x.text(index), () -> m.text(index));
                break;
            case 16:
                int place = near(4);
                compare("orderAt", "orderAt(" + place + ")", () -> x.orderAt(place), () -> m.orderAt(place));
                break;
            case 17: case 18:
                compare("why", "why(" + field + ")", () -> x.why(field), () -> m.why(field));
                break;
            case 19:
                int bytes = near(21);
                compare("lengthIf", "lengthIf(" + bytes + ")", () -> x.lengthIf(bytes), () -> m.lengthIf(bytes));
                break;
            case 20:
                compare("wouldHide", "wouldHide(" + field + ")", () -> x.wouldHide(field), () -> m.wouldHide(field));
                seen.merge("wouldHide " + (latest.startsWith("throws") || latest.equals("0") ? "none" : "more"), 1, Integer::sum);
                break;
            case 21:
                compare("yielded", "yielded()", x::yielded, m::yielded);
                compare("mirrored", "mirrored()", x::mirrored, m::mirrored);
                break;
            case 22:
                compare("longest", "longest()", x::longest, m::longest);
                compare("untouched", "untouched()", x::untouched, m::untouched);
                break;
            default:
                compare("meanLength", "meanLength()", x::meanLength, m::meanLength);
                break;
        }
    }
}
