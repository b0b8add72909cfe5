/** Promises 12 to 26, and sections 1 to 3: what a session shows and tells. */
final class SessionTests {
    private static final int NONE = SnippetExpander.NONE;
    /** The occurrences: 0 of 1 with a default, in it 1 of 2, in its default 2 of 3; 3 of 2, 4 of 3, 5 of 0, 6 of 1 upper. */
    private static final String NESTED = "snippet a{<${1:a${2:b${3:c}}}|${2:d${3:ee}}|${3:fff}|$0|${1/u}>}";

    static void addTo(Suite suite) {
        suite.test("promise 12: session", SessionTests::session);
        suite.test("promise 13: account", SessionTests::account);
        suite.test("promise 14: field", SessionTests::field);
        suite.test("promise 14: fields whose defaults yield", SessionTests::yieldingFields);
        suite.test("promise 15: value", SessionTests::value);
        suite.test("promise 16: occurrence", SessionTests::occurrence);
        suite.test("promise 16: where an occurrence begins", SessionTests::starts);
        suite.test("promise 17: text", SessionTests::text);
        suite.test("section 1: changes", SessionTests::changes);
        suite.test("section 1: numbers", SessionTests::numbers);
        suite.test("section 2: what is shown", SessionTests::shown);
        suite.test("section 2: what is typed stays", SessionTests::typedStays);
        suite.test("promise 18: orderAt", SessionTests::orderAt);
        suite.test("promise 19: why", SessionTests::why);
        suite.test("promise 20: yielded", SessionTests::yielded);
        suite.test("promise 21: mirrored", SessionTests::mirrored);
        suite.test("promise 22: longest", SessionTests::longest);
        suite.test("promise 23: untouched", SessionTests::untouched);
        suite.test("promise 24: meanLength", SessionTests::meanLength);
        suite.test("promise 25: lengthIf", SessionTests::lengthIf);
        suite.test("promise 26: wouldHide", SessionTests::wouldHide);
        suite.test("exceptions in their order", SessionTests::exceptions);
    }

    private static String fields(Bench b, int what) {
        StringBuilder told = new StringBuilder();
        for (int f = 0; f < 10; f++) {
            told.append(f == 0 ? "" : " ").append(b.x.field(f, what));
        }
        return told.toString();
    }

    private static String occurrences(Bench b, int what) {
        StringBuilder told = new StringBuilder();
        int count = b.x.snippet(b.x.session(b.x.size(1) - 1, 0), 1);
        for (int i = 0; i < count; i++) {
            told.append(i == 0 ? "" : " ").append(b.x.occurrence(i, what));
        }
        return told.toString();
    }

    private static void session(Suite s) {
        Bench b = Bench.with("snippet a{q$1$2}snippet b{zz${3:w$4}$0}");
        SnippetExpander x = b.x;
        x.expand(1);
        b.type("hey");
        x.expand(0);
        b.type("1");
        x.next();
        b.type("22");
        s.due("the outer one", "1 3 8 5 9", () -> told(x, 0));
        s.due("the inner one", "0 2 6 4 6", () -> told(x, 1));
        s.throwsIndex("session(2, 0)", () -> x.session(2, 0));
        s.throwsIndex("session(-1, 5)", () -> x.session(-1, 5));
        s.throwsIndex("session(2, 5)", () -> x.session(2, 5));
        s.throwsArgument("session(1, 5)", () -> x.session(1, 5));
        s.throwsArgument("session(0, -1)", () -> x.session(0, -1));
        x.drop();
        s.throwsIndex("session(1, 0)", () -> x.session(1, 0));
        x.drop();
        s.throwsIndex("session(0, 0)", () -> x.session(0, 0));
    }

    private static String told(SnippetExpander x, int level) {
        return x.session(level, 0) + " " + x.session(level, 1) + " " + x.session(level, 2) + " "
                + x.session(level, 3) + " " + x.session(level, 4);
    }

    private static void account(Suite s) {
        Bench b = Bench.open("snippet a{$1}");
        SnippetExpander x = b.x;
        s.due("one act", 1, () -> x.account(0));
        x.undo();
        s.due("it counts also when undone", 1, () -> x.account(0));
        x.erase();
        x.reset();
        s.due("two refusals", "2 0", () -> x.account(1) + " " + x.account(2));
        x.save(0);
        x.restore(0);
        x.find();
        x.load();
        s.due("no acts", "1 2", () -> x.account(0) + " " + x.account(1));
        s.throwsArgument("account(-1)", () -> x.account(-1));
        s.throwsArgument("account(10)", () -> x.account(10));
        s.due("account(9)", 0, () -> x.account(9));
    }

    private static void field(Suite s) {
        Bench b = Bench.open(NESTED);
        SnippetExpander x = b.x;
        s.due("live", "1 1 1 1 0 0 0 0 0 0", () -> fields(b, 0));
        s.due("typed", "0 0 0 0 0 0 0 0 0 0", () -> fields(b, 1));
        s.due("shown", "1 2 2 3 0 0 0 0 0 0".replace("2 2 3", "2 2 2"), () -> fields(b, 2));
        s.due("shown defaults", "-1 0 1 2 -1 -1 -1 -1 -1 -1", () -> fields(b, 3));
        s.due("places", "3 0 1 2 -1 -1 -1 -1 -1 -1", () -> fields(b, 4));
        s.due("lengths", "0 3 2 1 0 0 0 0 0 0", () -> fields(b, 5));
        s.due("occurrences", "1 2 2 3 0 0 0 0 0 0", () -> fields(b, 6));
        s.throwsIndex("field(10, 0)", () -> x.field(10, 0));
        s.throwsIndex("field(-1, 7)", () -> x.field(-1, 7));
        s.throwsArgument("field(0, 7)", () -> x.field(0, 7));
        s.throwsArgument("field(0, -1)", () -> x.field(0, -1));
        x.drop();
        s.throwsState("field(0, 0)", () -> x.field(0, 0));
        s.throwsArgument("field(0, 7) without session", () -> x.field(0, 7));
        s.throwsIndex("field(10, 7) without session", () -> x.field(10, 7));
    }

    private static void yieldingFields(Suite s) {
        Bench b = Bench.open(NESTED);
        s.due("text", "<abc|bc|c||ABC>", b::text);
        b.type("T");
        s.due("text without the default of 1", "<T|dee|ee||T>", b::text);
        s.due("live", "1 1 1 1 0 0 0 0 0 0", () -> fields(b, 0));
        s.due("typed", "0 1 0 0 0 0 0 0 0 0", () -> fields(b, 1));
        s.due("shown", "1 2 1 2 0 0 0 0 0 0", () -> fields(b, 2));
        s.due("shown defaults", "-1 -1 3 4 -1 -1 -1 -1 -1 -1", () -> fields(b, 3));
        s.due("lengths", "0 1 3 2 0 0 0 0 0 0", () -> fields(b, 5));
        b.x.next();
        b.type("U");
        s.due("text without the defaults of 2", "<T|U|fff||T>", b::text);
        s.due("shown", "1 2 1 1 0 0 0 0 0 0", () -> fields(b, 2));
        s.due("shown defaults", "-1 -1 -1 5 -1 -1 -1 -1 -1 -1", () -> fields(b, 3));
        b.x.previous();
        b.x.reset();
        s.due("text with the default of 1", "<aU|U|fff||AU>", b::text);
    }

    private static void value(Suite s) {
        Bench b = Bench.open("snippet a{${1:ab${2:c\u007e}}${3/u}$9}");
        SnippetExpander x = b.x;
        s.due("of 1", "abc~", () -> b.value(1));
        s.due("of 2", "c~", () -> b.value(2));
        s.due("of 3", "", () -> b.value(3));
        s.due("bytes of 1", "97 126 -1", () -> x.value(1, 0) + " " + x.value(1, 3) + " " + x.value(1, 4));
        s.due("value(1, -1)", NONE, () -> x.value(1, -1));
        s.due("value(1, most)", NONE, () -> x.value(1, Integer.MAX_VALUE));
        s.due("value(1, least)", NONE, () -> x.value(1, Integer.MIN_VALUE));
        s.due("value(8, 0)", NONE, () -> x.value(8, 0));
        x.go(3);
        b.type("yz\u00ff");
        s.due("the change is not in the value", "yz\u00ff", () -> b.value(3));
        x.go(2);
        b.type("t");
        x.go(1);
        b.type("q");
        s.due("2 is not live", 0, () -> x.field(2, 0));
        s.due("its value is told all the same", "t", () -> b.value(2));
        s.throwsIndex("value(10, 0)", () -> x.value(10, 0));
        s.throwsIndex("value(-1, 0)", () -> x.value(-1, 0));
        x.drop();
        s.throwsState("value(0, 0)", () -> x.value(0, 0));
        s.throwsIndex("value(10, 0) without session", () -> x.value(10, 0));
    }

    private static void occurrence(Suite s) {
        Bench b = Bench.open("snippet a{x${1:a$2${3:zz}}${2/u}${3/l}${2/r}${1/f}${1/n}${3:yyyy}$1}");
        SnippetExpander x = b.x;
        s.due("fields", "1 2 3 2 3 2 1 1 3 1", () -> occurrences(b, 0));
        s.due("changes", "0 0 0 1 2 3 4 5 0 0", () -> occurrences(b, 1));
        s.due("defaults", "1 0 1 0 0 0 0 0 1 0", () -> occurrences(b, 2));
        s.due("parents", "-1 0 0 -1 -1 -1 -1 -1 -1 -1", () -> occurrences(b, 3));
        s.due("shown", "1 1 1 1 1 1 1 1 1 1", () -> occurrences(b, 4));
        s.due("shown defaults", "1 0 1 0 0 0 0 0 0 0", () -> occurrences(b, 5));
        s.due("lengths", "3 0 2 0 2 0 1 1 2 3", () -> occurrences(b, 6));
        s.due("starts", "1 2 2 4 4 6 6 7 8 10", () -> occurrences(b, 7));
        b.type("0123456789");
        s.due("shown then", "1 0 0 1 1 1 1 1 1 1", () -> occurrences(b, 4));
        s.due("shown defaults then", "0 0 0 0 0 0 0 0 1 0", () -> occurrences(b, 5));
        s.due("lengths then", "10 0 4 0 4 0 1 2 4 10", () -> occurrences(b, 6));
        s.due("starts then", "1 -1 -1 11 11 15 15 16 18 22", () -> occurrences(b, 7));
        s.throwsIndex("occurrence(10, 0)", () -> x.occurrence(10, 0));
        s.throwsIndex("occurrence(-1, 8)", () -> x.occurrence(-1, 8));
        s.throwsIndex("occurrence(10, 8)", () -> x.occurrence(10, 8));
        s.throwsArgument("occurrence(0, 8)", () -> x.occurrence(0, 8));
        s.throwsArgument("occurrence(0, -1)", () -> x.occurrence(0, -1));
        x.drop();
        s.throwsState("occurrence(0, 0)", () -> x.occurrence(0, 0));
        s.throwsState("occurrence(-1, 8) without session", () -> x.occurrence(-1, 8));
        Bench full = Bench.open("snippet a{" + "$1".repeat(60) + "}");
        full.type("ab");
        s.due("the 60th", 118, () -> full.x.occurrence(59, 7));
        s.throwsIndex("a 61st", () -> full.x.occurrence(60, 0));
        Bench two = Bench.with("snippet a{$1$2$3}snippet b{$4}");
        two.x.expand(1);
        s.throwsIndex("an occurrence of another snippet", () -> two.x.occurrence(1, 0));
    }

    private static void starts(Suite s) {
        Bench b = Bench.open("snippet a{ab${1:c$5${2:d${3:e${4:f$5g$6}h$6}i$6}j$6}k$6}");
        b.x.go(5);
        b.type("55");
        b.x.go(6);
        b.type("666");
        s.due("text", "abc55def55g666h666i666j666k666", b::text);
        s.due("starts", "2 3 5 6 7 8 11 15 19 23 27", () -> occurrences(b, 7));
        Bench other = Bench.open("snippet a{${1/n}${2:x$1${1/r}}$2${2:y${1}}}");
        other.type("abc");
        s.due("other text", "3xabccbaxabccbaxabccba", other::text);
        s.due("other starts", "0 1 2 5 8 15 -1", () -> occurrences(other, 7));
    }

    private static void text(Suite s) {
        Bench b = Bench.open("snippet a{a$1~$0\n}");
        SnippetExpander x = b.x;
        b.type("\u00ff\u0001");
        s.due("text", "a\u00ff\u0001~\n", b::text);
        s.due("bytes", "97 255 1 126 10 -1", () -> x.text(0) + " " + x.text(1) + " " + x.text(2) + " " + x.text(3) + " "
                + x.text(4) + " " + x.text(5));
        s.due("text(-1)", NONE, () -> x.text(-1));
        s.due("text(most)", NONE, () -> x.text(Integer.MAX_VALUE));
        s.due("text(least)", NONE, () -> x.text(Integer.MIN_VALUE));
        x.drop();
        s.throwsState("text(0)", () -> x.text(0));
        Bench full = Bench.open("snippet a{$1" + "x".repeat(399) + "}");
        full.type("y");
        s.due("400 bytes", "121 120 -1", () -> full.x.text(0) + " " + full.x.text(399) + " " + full.x.text(400));
    }

    private static void changes(Suite s) {
        Bench b = Bench.open("snippet a{${1/u}|${1/l}|${1/r}|${1/f}|${1/n}|$1|${1:d}}");
        s.due("of the default", "D|d|d|d|1|d|d", b::text);
        b.x.reset();
        b.type("az{`AZ@[");
        s.due("of letters and their neighbours", "AZ{`AZ@[|az{`az@[|[@ZA`{za|a|8|az{`AZ@[|az{`AZ@[", b::text);
        Bench empty = Bench.open("snippet a{${1/u}|${1/l}|${1/r}|${1/f}|${1/n}|$1}");
        s.due("of an empty value", "||||0|", empty::text);
        s.due("their lengths", "0 0 0 0 1 0", () -> occurrences(empty, 6));
        Bench high = Bench.open("snippet a{${1/u}${1/l}${1/r}${1/f}}");
        high.type("\u00e9\u00c9");
        s.due("of high bytes", "\u00e9\u00c9\u00e9\u00c9\u00c9\u00e9\u00e9", high::text);
        Bench inside = Bench.open("snippet a{${1:<${2/u}${3/r}${2/n}>}${1/r}${2:ab}${3:cd}}");
        s.due("inside of a default", "<ABdc2>>2cdBA<abcd", inside::text);
    }

    private static void numbers(Suite s) {
        Bench b = Bench.open("snippet a{${1/n}}");
        b.type("123456789");
        s.due("9", "9", b::text);
        b.type("0");
        s.due("10", "10", b::text);
        b.type("0");
        s.due("11", "11", b::text);
        b.type("x".repeat(20));
        s.due("31", "31", b::text);
        int[] lengths = {99, 100, 101, 109, 110, 123, 390};
        for (int length : lengths) {
            Bench c = Bench.open("snippet a{${1:" + "x".repeat(length) + "}${1/n}}");
            s.due("number " + length, String.valueOf(length), () -> c.text().substring(length));
            s.due("its length " + length, length < 100 ? 2 : 3, () -> c.x.occurrence(1, 6));
        }
        Bench twice = Bench.open("snippet a{${1:${2/n}${2/n}}${1/n}${2:0123456789}}");
        s.due("the number of a number", "101040123456789", twice::text);
    }

    private static void shown(Suite s) {
        Bench b = Bench.open("snippet a{${1:A${2:B}}${2:C${3:D}}${1:E${4:F}}$3$4}");
        s.due("the first defaults", "ABBAB", b::text);
        s.due("live", "0 1 1 1 1 0 0 0 0 0", () -> fields(b, 0));
        s.due("shown", "1 1 1 0 1 0 1 1", () -> occurrences(b, 4));
        b.type("t");
        s.due("the default of 2 in the body", "tCDtD", b::text);
        b.x.reset();
        b.x.go(2);
        b.type("u");
        s.due("2 is typed", "AuuAu", b::text);
        s.due("a default in the middle", "x-x", () -> {
            Bench c = Bench.open("snippet a{$1-${1:x}}");
            return c.text();
        });
        s.due("a default that is not shown shows none", "", () -> {
            Bench c = Bench.open("snippet a{${1:}${1:${2:x}}$2}");
            return c.text();
        });
    }

    private static void typedStays(Suite s) {
        Bench b = Bench.open("snippet a{${1:-$2-}}");
        b.x.go(2);
        b.type("kept");
        s.due("text", "-kept-", b::text);
        b.x.go(1);
        b.type("t");
        s.due("2 is not live", "t 0 1 4", () -> b.text() + " " + b.x.field(2, 0) + " " + b.x.field(2, 1) + " " + b.x.field(2, 5));
        s.due("the set", 6, () -> b.x.session(0, 2));
        b.x.reset();
        s.due("text again", "-kept-", b::text);
    }

    private static void orderAt(Suite s) {
        Bench b = Bench.open("snippet a{$3$0${2:$7}$1$9$0$2}");
        SnippetExpander x = b.x;
        s.due("numbers", "123790", b::order);
        x.setOrder(true);
        s.due("places", "327190", b::order);
        s.due("none", "-1 -1 -1", () -> x.orderAt(6) + " " + x.orderAt(-1) + " " + x.orderAt(Integer.MIN_VALUE));
        x.go(2);
        b.type("x");
        s.due("7 is not live", "32190", b::order);
        s.due("orderAt(5)", NONE, () -> x.orderAt(5));
        x.drop();
        s.throwsState("orderAt(0)", () -> x.orderAt(0));
        s.throwsState("orderAt(-1)", () -> x.orderAt(-1));
        Bench hidden = Bench.open("order places;snippet a{${1:a}${1:$3}$4$2$3}");
        s.due("the first shown one counts", "1423", hidden::order);
        Bench all = Bench.open("snippet a{$9$8$7$6$5$4$3$2$1$0}");
        s.due("all by numbers", "1234567890", all::order);
        all.x.setOrder(true);
        s.due("all by places", "9876543210", all::order);
        s.due("the places of fields", "9 8 0", () -> all.x.field(0, 4) + " " + all.x.field(1, 4) + " " + all.x.field(9, 4));
        Bench last = Bench.open("order places;snippet a{$0$1}");
        s.due("0 is the last one", "10", last::order);
        Bench alone = Bench.open("snippet a{$0}");
        s.due("0 alone", "0", alone::order);
    }

    private static void why(Suite s) {
        Bench b = Bench.open("snippet a{${1:$2${3:$4}}${1:$5${6:$7}}}");
        SnippetExpander x = b.x;
        s.due("at first", "1 0 0 0 0 3 3 4 1 1", () -> whys(x));
        b.type("t");
        s.due("1 is typed", "1 0 2 2 4 2 2 4 1 1", () -> whys(x));
        Bench two = Bench.open("snippet a{${1:$2}${3:a}${3:$2}}");
        two.type("t");
        s.due("2 comes ahead of 3", 2, () -> two.x.why(2));
        Bench late = Bench.open("snippet a{${3:a}${3:$2}${1:$2}}");
        late.type("t");
        s.due("also behind it", 2, () -> late.x.why(2));
        Bench yield = Bench.open("snippet a{${4:a}${4:$5${6:$2}}${3:a}${3:$2}}");
        s.due("3 comes ahead of 4", 3, () -> yield.x.why(2));
        Bench hidden = Bench.open("snippet a{${1:${2:$3}}$2}");
        hidden.x.go(2);
        hidden.type("u");
        hidden.x.go(1);
        hidden.type("t");
        s.due("the innermost default is not of a shown one", 4, () -> hidden.x.why(3));
        s.throwsIndex("why(10)", () -> x.why(10));
        s.throwsIndex("why(-1)", () -> x.why(-1));
        x.drop();
        s.throwsState("why(0)", () -> x.why(0));
        s.throwsIndex("why(10) without session", () -> x.why(10));
    }

    private static String whys(SnippetExpander x) {
        StringBuilder told = new StringBuilder();
        for (int f = 0; f < 10; f++) {
            told.append(f == 0 ? "" : " ").append(x.why(f));
        }
        return told.toString();
    }

    private static void yielded(Suite s) {
        Bench b = Bench.open("snippet a{${1:a${3:b}}${1:c}${2:d}${3:e${1/u}}${1:f}}".replace("e${1/u}", "e"));
        s.due("two of 1 and one of 3", 3, b.x::yielded);
        b.type("t");
        s.due("three of 1", 3, b.x::yielded);
        b.x.go(2);
        b.type("t");
        s.due("and one of 2", 4, b.x::yielded);
        s.due("none", 0, () -> Bench.open("snippet a{$1${2:x}}").x.yielded());
        b.x.drop();
        s.throwsState("yielded()", b.x::yielded);
    }

    private static void mirrored(Suite s) {
        Bench b = Bench.open("snippet a{${1:$2}${1:$3}$3$2$4$4$4$0}");
        s.due("1, 2 and 4", 3, b.x::mirrored);
        b.type("t");
        s.due("1 and 4", 2, b.x::mirrored);
        s.due("none", 0, () -> Bench.open("snippet a{$1$2}").x.mirrored());
        b.x.drop();
        s.throwsState("mirrored()", b.x::mirrored);
    }

    private static void longest(Suite s) {
        Bench b = Bench.open("snippet a{$4${3:ab}$2${5:cd}$9}");
        s.due("3", 3, b.x::longest);
        b.x.go(5);
        b.type("xyz");
        s.due("5", 5, b.x::longest);
        b.x.go(3);
        b.type("xyz");
        s.due("3 of two", 3, b.x::longest);
        s.due("the lowest one of empty ones", 2, () -> Bench.open("snippet a{$4$2$3}").x.longest());
        s.due("0 is the lowest one", 0, () -> Bench.open("snippet a{$4$2$0}").x.longest());
        Bench hidden = Bench.open("snippet a{${1:$2}$3}");
        hidden.x.go(2);
        hidden.type("long");
        hidden.x.go(1);
        hidden.type("t");
        s.due("2 is not live", 1, hidden.x::longest);
        s.due("not by the bytes that are told", 2, () -> {
            Bench c = Bench.open("snippet a{${1:x}$1$1$1$1${2:yy}}");
            return c.x.longest();
        });
        b.x.drop();
        s.throwsState("longest()", b.x::longest);
    }

    private static void untouched(Suite s) {
        Bench b = Bench.open("snippet a{$1${2:$3}$0}");
        s.due("all", 1.0f, b.x::untouched);
        b.type("x");
        s.due("3 of 4", 0.75f, b.x::untouched);
        b.x.go(3);
        b.type("x");
        s.due("2 of 4", 0.5f, b.x::untouched);
        b.x.go(2);
        b.type("x");
        s.due("1 of 3", 1.0f / 3.0f, b.x::untouched);
        b.x.go(0);
        b.type("x");
        s.due("none", 0.0f, b.x::untouched);
        b.x.drop();
        s.throwsState("untouched()", b.x::untouched);
    }

    private static void meanLength(Suite s) {
        Bench b = Bench.open("snippet a{$1${2:ab$3}$3}");
        s.due("2 of 3", 2.0 / 3.0, b.x::meanLength);
        b.x.go(3);
        b.type("xyz");
        s.due("8 of 3", 8.0 / 3.0, b.x::meanLength);
        b.x.go(1);
        b.type("0123456789");
        s.due("18 of 3", 6.0, b.x::meanLength);
        Bench hidden = Bench.open("snippet a{${1:$2}$3}");
        hidden.x.go(2);
        hidden.type("long");
        hidden.x.go(1);
        hidden.type("t");
        s.due("2 is not live", 0.5, hidden.x::meanLength);
        b.x.drop();
        s.throwsState("meanLength()", b.x::meanLength);
    }

    private static void lengthIf(Suite s) {
        Bench b = Bench.open("snippet a{${1:abcde$2}$1${1/n}$2" + "x".repeat(300) + "}");
        SnippetExpander x = b.x;
        s.due("now", 311, () -> x.session(0, 3));
        s.due("one", 303, () -> x.lengthIf(1));
        s.due("ten", 322, () -> x.lengthIf(10));
        s.due("twenty", 342, () -> x.lengthIf(20));
        s.due("nothing changes", "311 0 0", () -> x.session(0, 3) + " " + x.session(0, 2) + " " + x.size(4));
        b.type("x".repeat(20));
        s.due("39", 380, () -> x.lengthIf(19));
        s.due("40", 382, () -> x.lengthIf(20));
        b.type("x");
        s.due("41", NONE, () -> x.lengthIf(20));
        s.due("40 of 41", 382, () -> x.lengthIf(19));
        s.due("no refusals, three acts", "0 0 3", () -> x.account(4) + " " + x.account(3) + " " + x.size(5));
        Bench wide = Bench.open("snippet a{" + "$1".repeat(40) + "}");
        s.due("400", 400, () -> wide.x.lengthIf(10));
        s.due("440", NONE, () -> wide.x.lengthIf(11));
        Bench one = Bench.open("snippet a{$1" + "x".repeat(390) + "}");
        s.due("400 by one", 400, () -> one.x.lengthIf(10));
        s.due("401", NONE, () -> one.x.lengthIf(11));
        s.throwsArgument("lengthIf(0)", () -> x.lengthIf(0));
        s.throwsArgument("lengthIf(21)", () -> x.lengthIf(21));
        s.throwsArgument("lengthIf(-1)", () -> x.lengthIf(-1));
        x.drop();
        s.throwsState("lengthIf(1)", () -> x.lengthIf(1));
        s.throwsState("lengthIf(20)", () -> x.lengthIf(20));
        s.throwsArgument("lengthIf(0) without session", () -> x.lengthIf(0));
        s.throwsArgument("lengthIf(21) without session", () -> x.lengthIf(21));
    }

    private static void wouldHide(Suite s) {
        Bench b = Bench.open("snippet a{${1:$2${3:$4$5}}${3:$5$6}$2$0${0:$9$8}}");
        SnippetExpander x = b.x;
        s.due("of 1", 1 << 4, () -> x.wouldHide(1));
        s.due("of 2", 0, () -> x.wouldHide(2));
        s.due("of 3", 1 << 4 | 1 << 5, () -> x.wouldHide(3));
        s.due("of 0", 1 << 9 | 1 << 8, () -> x.wouldHide(0));
        s.due("of 6, which is not live", 0, () -> x.wouldHide(6));
        s.due("of 7, which does not occur", 0, () -> x.wouldHide(7));
        s.due("nothing changes", "0 63", () -> x.session(0, 2) + " " + (x.session(0, 4) & 63));
        b.type("t");
        s.due("of 1, which is typed", 0, () -> x.wouldHide(1));
        s.due("of 3 then", 1 << 5 | 1 << 6, () -> x.wouldHide(3));
        s.throwsIndex("wouldHide(10)", () -> x.wouldHide(10));
        s.throwsIndex("wouldHide(-1)", () -> x.wouldHide(-1));
        x.drop();
        s.throwsState("wouldHide(0)", () -> x.wouldHide(0));
        s.throwsIndex("wouldHide(10) without session", () -> x.wouldHide(10));
        Bench other = Bench.open("snippet a{${1:${2:a}}${2:${3:b}}${3:${4:c}}}");
        s.due("what gets hidden far behind", 1 << 4, () -> {
            other.x.go(1);
            return other.x.wouldHide(1);
        });
    }

    private static void exceptions(Suite s) {
        Bench b = Bench.open("snippet a{$1}");
        SnippetExpander x = b.x;
        s.throwsIndex("snippet(1, 6)", () -> x.snippet(1, 6));
        s.throwsIndex("session(1, 5)", () -> x.session(1, 5));
        s.throwsIndex("field(10, 7)", () -> x.field(10, 7));
        s.throwsIndex("occurrence(1, 8)", () -> x.occurrence(1, 8));
        b.put("ab");
        s.throwsArgument("type(21)", () -> x.type(21));
        s.throwsElement("type(3)", () -> x.type(3));
        s.due("nothing has changed", "2 0", () -> x.size(4) + " " + x.session(0, 2));
        s.due("type(2)", 2, () -> x.type(2));
    }
}
