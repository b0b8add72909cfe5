/** Boundary cases of section 2, and of promises 12 to 18: what a session shows and tells. */
final class FieldEdges {
    private static final int NONE = SnippetExpander.NONE;
    private static final int LEAST = Integer.MIN_VALUE;
    private static final int MOST = Integer.MAX_VALUE;

    static void addTo(Edges e) {
        typed(e);
        shown(e);
        live(e);
        session(e);
        account(e);
        field(e);
        fieldThrows(e);
        value(e);
        occurrence(e);
        occurrenceThrows(e);
        text(e);
        orderAt(e);
    }

    /** A session in a session, with a document, a buffer, acts to undo and a saved state. */
    static void inSession(Bench b) {
        b.load("snippet a{<${1:x${2:y}}${2/u}>}snippet lit{lit}");
        b.x.expand(1);
        b.x.expand(0);
        b.type("o");
        b.x.expand(0);
        b.x.next();
        b.type("in");
        b.x.save(1);
        b.x.previous();
        b.put("snippet z{}");
    }

    /** No session any more, but a document, a buffer, acts to undo and a saved state. */
    static void withoutSession(Bench b) {
        inSession(b);
        b.x.drop();
        b.x.drop();
    }

    private static void typed(Edges e) {
        e.ofSection(2);
        e.test("In a session each field is typed, with a text of at most 40 bytes, or not typed (at first).", s -> {
            Bench b = Bench.open("snippet a{$1$2}");
            s.due("at first", "0 0", () -> b.x.field(1, 1) + " " + b.x.session(0, 2));
            b.type("x".repeat(20));
            s.due("40 bytes", 40, () -> b.type("y".repeat(20)));
            s.due("a 41st", -4, () -> b.type("z"));
            s.due("40 bytes still", "1 40", () -> b.x.field(1, 1) + " " + b.x.field(1, 5));
            Bench empty = Bench.open("snippet a{${1:x}}");
            empty.x.erase();
            s.due("typed with an empty text", "1 0", () -> empty.x.field(1, 1) + " " + empty.x.field(1, 5));
            Bench again = Bench.open("snippet a{$0$1}");
            again.type("x");
            again.x.go(0);
            again.type("x");
            again.x.drop();
            again.x.expand(0);
            s.due("at first, where another session was", "0 0", () -> again.x.session(0, 2) + " " + again.x.session(0, 3));
            s.due("a byte behind nothing", "1 x", () -> again.type("x") + " " + again.text());
            again.x.go(0);
            s.due("a byte behind nothing in 0", "1 xx", () -> again.type("x") + " " + again.text());
        });
        e.test("Otherwise it is what its shown default tells; it is empty if none is shown.", s -> {
            Bench b = Bench.open("snippet a{${1:a${2:b}}${2:c}$3${4:}}");
            s.due("defaults that are shown", "ab b", () -> b.value(1) + " " + b.value(2));
            s.due("a default of 0 and of 9", "ab b", () -> {
                Bench c = Bench.open("snippet a{${0:a${9:b}}}");
                return c.value(0) + " " + c.value(9);
            });
            s.due("a default by way of all 10 fields", "abcdefghij abcdefghij", () ->
                    Bench.open("snippet a{${0:a$1}${1:b$2}${2:c$3}${3:d$4}${4:e$5}${5:f$6}${6:g$7}${7:h$8}${8:i$9}${9:j}}").value(0) + " "
                    + Bench.open("snippet a{${9:a$8}${8:b$7}${7:c$6}${6:d$5}${5:e$4}${4:f$3}${3:g$2}${2:h$1}${1:i$0}${0:j}}").value(9));
            s.due("no default", "", () -> b.value(3));
            s.due("an empty default", "", () -> b.value(4));
            b.type("t");
            s.due("another default is shown then", "c", () -> b.value(2));
            Bench hidden = Bench.open("snippet a{${1:${2:b}}}");
            hidden.type("t");
            s.due("no default of it is shown", " 0", () -> hidden.value(2) + " " + hidden.x.field(2, 5));
        });
        e.test("What is typed in a field stays also while it is not live.", s -> {
            Bench b = Bench.open("snippet a{${1:<$2>}}");
            b.x.go(2);
            b.type("kept");
            b.x.go(1);
            b.type("t");
            s.due("while it is not live", "t 0 1 kept", () -> b.text() + " " + b.x.field(2, 0) + " " + b.x.field(2, 1) + " " + b.value(2));
            b.x.reset();
            s.due("live again", "<kept> 1", () -> b.text() + " " + b.x.field(2, 0));
        });
    }

    private static void shown(Edges e) {
        e.test("An occurrence is shown if it is in no default, or if the innermost default in which it is is shown.", s -> {
            Bench b = Bench.open("snippet a{$5${1:${2:${3:${4:$6}}}}}");
            s.due("in none to 4", "1 1 1 1 1 1", () -> occurrences(b, 4));
            b.x.go(4);
            b.type("t");
            s.due("the innermost one is not shown", "1 1 1 1 1 0", () -> occurrences(b, 4));
            b.x.go(1);
            b.type("t");
            s.due("none is shown", "1 1 0 0 0 0", () -> occurrences(b, 4));
            s.due("two defaults of a field, of which one is shown", "1 1 1 0", () -> occurrences(Bench.open("snippet a{${1:$2}${1:$3}}"), 4));
        });
        e.test("A default is shown if its occurrence is shown, its field is not typed, "
                + "and no default of an occurrence of the same field with a lower number is shown.", s -> {
            Bench b = Bench.open("snippet a{${1:a${2:b}}${2:c}${2:d}}");
            s.due("the first one of 2", "1 1 0 0", () -> occurrences(b, 5));
            b.type("t");
            s.due("its occurrence is not shown", "0 0 1 0", () -> occurrences(b, 5));
            b.x.go(2);
            b.type("t");
            s.due("its field is typed", "0 0 0 0", () -> occurrences(b, 5));
            b.x.go(1);
            b.x.reset();
            s.due("that of 1 again", "1 0 0 0", () -> occurrences(b, 5));
            Bench empty = Bench.open("snippet a{${1:a}}");
            empty.x.erase();
            s.due("typed with an empty text", "0", () -> occurrences(empty, 5));
            s.due("an occurrence without default ahead of it", "0 1", () -> occurrences(Bench.open("snippet a{$1${1:a}}"), 5));
            s.due("an empty default ahead of it", "1 0", () -> occurrences(Bench.open("snippet a{${1:}${1:a}}"), 5));
        });
    }

    static String occurrences(Bench b, int what) {
        int count = b.x.snippet(b.x.session(b.x.size(1) - 1, 0), 1);
        StringBuilder told = new StringBuilder();
        for (int i = 0; i < count; i++) {
            told.append(i == 0 ? "" : " ").append(b.x.occurrence(i, what));
        }
        return told.toString();
    }

    private static void live(Edges e) {
        e.test("A field is live if at least one of its occurrences is shown.", s -> {
            Bench b = Bench.open("snippet a{${1:$2$3$3}$2}");
            s.due("all shown", "2 1 2 1", () -> b.x.field(2, 2) + " " + b.x.field(2, 0) + " " + b.x.field(3, 2) + " " + b.x.field(3, 0));
            b.type("t");
            s.due("one and none shown", "1 1 0 0", () -> b.x.field(2, 2) + " " + b.x.field(2, 0) + " " + b.x.field(3, 2) + " " + b.x.field(3, 0));
            s.due("no occurrence", "0 0", () -> b.x.field(4, 2) + " " + b.x.field(4, 0));
        });
        e.test("The order of leaving has all live fields: with the order \"numbers\" those from 1 to 9 by ascending numbers", s -> {
            s.due("all", "1234567890", () -> Bench.open("snippet a{$0$9$8$7$6$5$4$3$2$1}").order());
            s.due("one", "9", () -> Bench.open("snippet a{$9}").order());
            s.due("0 alone", "0", () -> Bench.open("snippet a{$0}").order());
            s.due("without those that are not live", "1", () -> Bench.open("snippet a{${1:}${1:$2}}").order());
        });
        e.test("with the order \"places\" those from 1 to 9 by the numbers of their first shown occurrences", s -> {
            s.due("all", "9876543210", () -> Bench.open("order places;snippet a{$0$9$8$7$6$5$4$3$2$1}").order());
            s.due("first ones that are not shown", "132", () -> Bench.open("order places;snippet a{${1:}${1:$2}$3$2$3}").order());
            s.due("the last one of 60 occurrences", "120", () -> Bench.open("order places;snippet a{" + "$0".repeat(30) + "$1".repeat(29) + "$2}").order());
            s.due("first ones in a default", "213", () -> Bench.open("order places;snippet a{${2:$1}$3$1}").order());
        });
        e.test("0 is the last one in both cases, if it is live.", s -> {
            s.due("by numbers", "190", () -> Bench.open("snippet a{$0$9$1}").order());
            s.due("by places", "910", () -> Bench.open("order places;snippet a{$0$9$1}").order());
            s.due("not live by numbers", "1", () -> Bench.open("snippet a{${1:}${1:$0}}").order());
            s.due("not live by places", "1", () -> Bench.open("order places;snippet a{${1:}${1:$0}}").order());
        });
    }

    private static void session(Edges e) {
        e.ofPromise(12);
        e.test("level: 0 for the outermost session, up to the depth less 1", s -> {
            Bench b = Bench.with("snippet a{a$1}snippet b{bb$2}snippet c{ccc$3}snippet d{dddd$4}");
            for (int i = 0; i < 4; i++) {
                b.x.expand(i);
            }
            s.due("the outermost one", "0 1 0 1 2", () -> told(b.x, 0));
            s.due("the innermost one of 4", "3 4 0 4 16", () -> told(b.x, 3));
            s.due("each for itself", "16 2 8 4 1 3 2", () -> b.x.session(3, 4) + " " + b.x.session(0, 4) + " " + b.x.session(2, 4) + " "
                    + b.x.session(1, 4) + " " + b.x.session(0, 3) + " " + b.x.session(2, 3) + " " + b.x.session(1, 3));
            s.throwsIndex("level 4", () -> b.x.session(4, 0));
            b.x.drop();
            s.throwsIndex("level 3 of 3", () -> b.x.session(3, 0));
            s.due("level 2 of 3", 2, () -> b.x.session(2, 0));
        });
        e.test("what: 0 its snippet, 1 its current field, 2 the fields that are typed in it, as a set, 3 bytes of its TEXT, "
                + "4 its live fields, as a set", s -> {
            s.due("least ones", "0 0 0 0 1", () -> told(Bench.open("snippet a{$0}").x, 0));
            Bench b = Bench.with(TextEdges.snippets(7) + "snippet z{$0$1$2$3$4$5$6$7$8$9" + "x".repeat(390) + "}");
            b.x.expand(7);
            for (int field = 0; field < 10; field++) {
                b.x.go(field);
                b.type("y");
            }
            s.due("greatest ones", "7 9 1023 400 1023", () -> told(b.x, 0));
        });
        e.test("Throws IndexOutOfBoundsException if there is no such level", s -> {
            for (int level : new int[] {-1, 2, LEAST, MOST}) {
                Still.whenThrown(s, "session(" + level + ", 0)", FieldEdges::inSession, "IndexOutOfBoundsException", x -> x.session(level, 0));
                s.throwsIndex("session(" + level + ", 5)", () -> Still.made(FieldEdges::inSession).x.session(level, 5));
            }
            Still.whenThrown(s, "session(0, 0) without session", FieldEdges::withoutSession, "IndexOutOfBoundsException", x -> x.session(0, 0));
        });
        e.test("Throws IllegalArgumentException if what is out of range", s -> {
            for (int what : new int[] {-1, 5, LEAST, MOST}) {
                Still.whenThrown(s, "session(1, " + what + ")", FieldEdges::inSession, "IllegalArgumentException", x -> x.session(1, what));
            }
            s.due("session(1, 0) and session(1, 4)", "0 6", () -> {
                SnippetExpander x = Still.made(FieldEdges::inSession).x;
                return x.session(1, 0) + " " + x.session(1, 4);
            });
        });
    }

    private static String told(SnippetExpander x, int level) {
        return x.session(level, 0) + " " + x.session(level, 1) + " " + x.session(level, 2) + " " + x.session(level, 3) + " " + x.session(level, 4);
    }

    private static void account(Edges e) {
        e.ofPromise(13);
        e.test("0 acts that were done since this object was created (those that were undone count, too), 1 to 9 refusals with this reason", s -> {
            Bench b = new Bench();
            s.due("none", "0 0 0 0 0 0 0 0 0 0", () -> Still.accounts(c -> { }));
            for (int i = 0; i < 12; i++) {
                b.x.setOrder(true);
            }
            s.due("more than can be undone", 12, () -> b.x.account(0));
            b.x.undo();
            s.due("after undo()", 12, () -> b.x.account(0));
            b.load("snippet a{$1}");
            s.due("after load()", 12, () -> b.x.account(0));
            b.x.save(0);
            b.x.expand(0);
            b.x.go(2);
            b.x.restore(0);
            s.due("after restore()", "13 1", () -> b.x.account(0) + " " + b.x.account(8));
            b.x.next();
            s.due("a refusal is no act", "13 1", () -> b.x.account(0) + " " + b.x.account(1));
        });
        e.test("Throws IllegalArgumentException if what is out of range", s -> {
            for (int what : new int[] {-1, 10, LEAST, MOST}) {
                Still.whenThrown(s, "account(" + what + ")", FieldEdges::inSession, "IllegalArgumentException", x -> x.account(what));
            }
            s.due("account(0) and account(9)", "7 0", () -> {
                SnippetExpander x = Still.made(FieldEdges::inSession).x;
                return x.account(0) + " " + x.account(9);
            });
        });
    }

    private static void field(Edges e) {
        e.ofPromise(14);
        e.test("3 the occurrence whose default is shown (NONE)", s -> {
            Bench b = Bench.open("snippet a{${1:a}$2${3:${1:b}}${1:c}}");
            s.due("the first occurrence", 0, () -> b.x.field(1, 3));
            s.due("a field without default", NONE, () -> b.x.field(2, 3));
            s.due("a field that does not occur", NONE, () -> b.x.field(9, 3));
            b.type("t");
            s.due("a field that is typed", NONE, () -> b.x.field(1, 3));
            Bench last = Bench.open("snippet a{" + "$1".repeat(59) + "${1:}}");
            s.due("the last one of 60", 59, () -> last.x.field(1, 3));
        });
        e.test("4 its place in the order of leaving, from 0 (NONE if it is not live)", s -> {
            Bench b = Bench.open("snippet a{$0$1$2$3$4$5$6$7$8$9}");
            s.due("the first and the last one", "0 8 9", () -> b.x.field(1, 4) + " " + b.x.field(9, 4) + " " + b.x.field(0, 4));
            b.x.setOrder(true);
            s.due("by places", "0 8 9", () -> b.x.field(1, 4) + " " + b.x.field(9, 4) + " " + b.x.field(0, 4));
            Bench hidden = Bench.open("snippet a{${1:}${1:$2}}");
            s.due("not live", NONE, () -> hidden.x.field(2, 4));
            s.due("without occurrence", NONE, () -> hidden.x.field(0, 4));
        });
        e.test("what: 0 1 if it is live, otherwise 0, 1 1 if it is typed, otherwise 0, 2 its shown occurrences", s -> {
            Bench b = Bench.open("snippet a{${1:$2}" + "$1".repeat(57) + "$2}");
            s.due("58 of 58 and 2 of 2", "1 0 58 1 0 2 0 0 0", () -> live(b, 1) + " " + live(b, 2) + " " + live(b, 0));
            b.type("t");
            s.due("58 of 58 and 1 of 2", "1 1 58 1 0 1", () -> live(b, 1) + " " + live(b, 2));
            Bench full = Bench.open("snippet a{" + "$1".repeat(60) + "}");
            s.due("60 of 60", "1 0 60", () -> live(full, 1));
        });
        e.test("5 bytes of its value, 6 its occurrences, shown or not", s -> {
            Bench b = Bench.open("snippet a{${1:" + "x".repeat(400) + "}}");
            s.due("400 bytes", "400 1", () -> b.x.field(1, 5) + " " + b.x.field(1, 6));
            s.due("nothing of another one", "0 0", () -> b.x.field(2, 5) + " " + b.x.field(2, 6));
            Bench hidden = Bench.open("snippet a{${1:}${1:" + "$2".repeat(58) + "}}");
            s.due("58 of which none is shown", "0 58 0", () -> hidden.x.field(2, 5) + " " + hidden.x.field(2, 6) + " " + hidden.x.field(2, 2));
            Bench full = Bench.open("snippet a{" + "$9".repeat(60) + "}");
            s.due("60", 60, () -> full.x.field(9, 6));
        });
    }

    private static String live(Bench b, int field) {
        return b.x.field(field, 0) + " " + b.x.field(field, 1) + " " + b.x.field(field, 2);
    }

    private static void fieldThrows(Edges e) {
        e.test("Throws IndexOutOfBoundsException if there is no such field", s -> {
            for (int field : new int[] {-1, 10, LEAST, MOST}) {
                Still.whenThrown(s, "field(" + field + ", 0)", FieldEdges::inSession, "IndexOutOfBoundsException", x -> x.field(field, 0));
                s.throwsIndex("field(" + field + ", 7)", () -> Still.made(FieldEdges::inSession).x.field(field, 7));
                s.throwsIndex("field(" + field + ", 7) without session", () -> Still.made(FieldEdges::withoutSession).x.field(field, 7));
            }
            s.due("field(0, 0) and field(9, 0)", "0 0", () -> {
                SnippetExpander x = Still.made(FieldEdges::inSession).x;
                return x.field(0, 0) + " " + x.field(9, 0);
            });
        });
        e.test("Throws IllegalArgumentException if what is out of range", s -> {
            for (int what : new int[] {-1, 7, LEAST, MOST}) {
                Still.whenThrown(s, "field(1, " + what + ")", FieldEdges::inSession, "IllegalArgumentException", x -> x.field(1, what));
                s.throwsArgument("field(1, " + what + ") without session", () -> Still.made(FieldEdges::withoutSession).x.field(1, what));
            }
            s.due("field(1, 0) and field(1, 6)", "1 1", () -> {
                SnippetExpander x = Still.made(FieldEdges::inSession).x;
                return x.field(1, 0) + " " + x.field(1, 6);
            });
        });
        e.test("Throws IllegalStateException if there is no session", s -> Still.whenThrown(s, "field(1, 0)", FieldEdges::withoutSession,
                "IllegalStateException", x -> x.field(1, 0)));
    }

    private static void value(Edges e) {
        e.ofPromise(15);
        e.test("Returns this byte of its value (also if it is not live); NONE if there is none such.", s -> {
            Bench b = Bench.open("snippet a{${1:a$2}$3}");
            b.x.go(2);
            b.type("\u0001\u00ff");
            s.due("of a live one", "1 255 -1 -1", () -> b.x.value(2, 0) + " " + b.x.value(2, 1) + " " + b.x.value(2, 2) + " " + b.x.value(2, -1));
            b.x.go(1);
            b.type("t");
            s.due("of one that is not live", "1 255 -1", () -> b.x.value(2, 0) + " " + b.x.value(2, 1) + " " + b.x.value(2, 2));
            s.due("of an empty value", "-1 -1", () -> b.x.value(3, 0) + " " + b.x.value(3, -1));
            s.due("of one that does not occur", NONE, () -> b.x.value(9, 0));
            s.due("far off", "-1 -1", () -> b.x.value(1, LEAST) + " " + b.x.value(1, MOST));
            Bench full = Bench.open("snippet a{${1:" + "x".repeat(399) + "y}}");
            s.due("of 400 bytes", "120 121 -1", () -> full.x.value(1, 398) + " " + full.x.value(1, 399) + " " + full.x.value(1, 400));
        });
        e.test("Throws IndexOutOfBoundsException if there is no such field", s -> {
            for (int field : new int[] {-1, 10, LEAST, MOST}) {
                Still.whenThrown(s, "value(" + field + ", 0)", FieldEdges::inSession, "IndexOutOfBoundsException", x -> x.value(field, 0));
                s.throwsIndex("value(" + field + ", 0) without session", () -> Still.made(FieldEdges::withoutSession).x.value(field, 0));
            }
            s.due("value(0, 0) and value(9, 0)", "-1 -1", () -> {
                SnippetExpander x = Still.made(FieldEdges::inSession).x;
                return x.value(0, 0) + " " + x.value(9, 0);
            });
        });
        e.test("Throws IllegalStateException if there is no session", s -> Still.whenThrown(s, "value(1, 0)", FieldEdges::withoutSession,
                "IllegalStateException", x -> x.value(1, 0)));
    }

    private static void occurrence(Edges e) {
        e.ofPromise(16);
        e.test("3 the occurrence of the innermost default in which it is (NONE)", s -> {
            s.due("in none to 4", "-1 0 1 2 3 -1", () -> occurrences(Bench.open("snippet a{${1:${2:${3:${4:$5}}}}$6}"), 3));
            s.due("behind a default in a default", "-1 0 0 -1", () -> occurrences(Bench.open("snippet a{${1:${2:x}$3}$4}"), 3));
        });
        e.test("2 1 if it has a default, otherwise 0", s -> s.due("an empty one, a change, neither", "1 0 0 0",
                () -> occurrences(Bench.open("snippet a{${1:}${1/u}$1${1}}"), 2)));
        e.test("0 its field, 1 its change", s -> {
            Bench b = Bench.open("snippet a{$0${9/u}${1/l}${1/r}${1/f}${1/n}}");
            s.due("fields", "0 9 1 1 1 1", () -> occurrences(b, 0));
            s.due("changes", "0 1 2 3 4 5", () -> occurrences(b, 1));
        });
        e.test("4 1 if it is shown, otherwise 0, 5 1 if its default is shown, otherwise 0", s -> {
            Bench b = Bench.open("snippet a{${1:$2}${1:$3}$1${4:}}");
            s.due("shown", "1 1 1 0 1 1", () -> occurrences(b, 4));
            s.due("defaults shown", "1 0 0 0 0 1", () -> occurrences(b, 5));
        });
        e.test("6 how many bytes the value of its field with its change has", s -> {
            Bench b = Bench.open("snippet a{$1${1/u}${1/l}${1/r}${1/f}${1/n}${2:}${2:$1${1/n}}}");
            s.due("of an empty value", "0 0 0 0 0 1 0 0 0 1", () -> occurrences(b, 6));
            b.type("x");
            s.due("of a byte", "1 1 1 1 1 1 0 0 1 1", () -> occurrences(b, 6));
            b.type("x".repeat(9));
            s.due("of 10 bytes, shown or not", "10 10 10 10 1 2 0 0 10 2", () -> occurrences(b, 6));
            Bench full = Bench.open("snippet a{${1:" + "x".repeat(400) + "}}");
            s.due("of 400 bytes", "400", () -> occurrences(full, 6));
        });
        e.test("7 where in the TEXT it begins (NONE if it is not shown)", s -> {
            s.due("at its beginning", "0 0", () -> occurrences(Bench.open("snippet a{$1$2}"), 7));
            s.due("at its end of 400 bytes", "0 400", () -> occurrences(Bench.open("snippet a{$1" + "x".repeat(400) + "$2}"), 7));
            s.due("in an empty TEXT", "0 0 -1 0", () -> occurrences(Bench.open("snippet a{${1:}${1:$2}$3}"), 7));
            s.due("in 4 defaults", "1 2 3 4 5 9", () -> occurrences(Bench.open("snippet a{a${1:b${2:c${3:d${4:e$5f}g}h}i}$6}"), 7));
        });
    }

    private static void occurrenceThrows(Edges e) {
        e.test("Throws IllegalStateException if there is no session", s -> {
            Still.whenThrown(s, "occurrence(0, 0)", FieldEdges::withoutSession, "IllegalStateException", x -> x.occurrence(0, 0));
            s.throwsState("occurrence(3, 8)", () -> Still.made(FieldEdges::withoutSession).x.occurrence(3, 8));
            s.throwsState("occurrence(-1, 0)", () -> Still.made(FieldEdges::withoutSession).x.occurrence(-1, 0));
            s.throwsState("occurrence(0, -1)", () -> Still.made(FieldEdges::withoutSession).x.occurrence(0, -1));
        });
        e.test("Throws IndexOutOfBoundsException if there is no such occurrence", s -> {
            for (int occurrence : new int[] {-1, 3, LEAST, MOST}) {
                Still.whenThrown(s, "occurrence(" + occurrence + ", 0)", FieldEdges::inSession, "IndexOutOfBoundsException",
                        x -> x.occurrence(occurrence, 0));
                s.throwsIndex("occurrence(" + occurrence + ", 8)", () -> Still.made(FieldEdges::inSession).x.occurrence(occurrence, 8));
            }
            s.due("occurrence(2, 0)", 2, () -> Still.made(FieldEdges::inSession).x.occurrence(2, 0));
            Bench full = Bench.open("snippet a{" + "$1".repeat(59) + "$2}");
            s.due("the last one of 60", 2, () -> full.x.occurrence(59, 0));
            s.throwsIndex("one behind it", () -> full.x.occurrence(60, 0));
            Bench inner = Bench.with("snippet a{$1$2}snippet b{$1}");
            inner.x.expand(0);
            inner.x.expand(1);
            s.throwsIndex("one of the session outside", () -> inner.x.occurrence(1, 0));
        });
        e.test("Throws IllegalArgumentException if what is out of range", s -> {
            for (int what : new int[] {-1, 8, LEAST, MOST}) {
                Still.whenThrown(s, "occurrence(0, " + what + ")", FieldEdges::inSession, "IllegalArgumentException", x -> x.occurrence(0, what));
            }
            s.due("occurrence(0, 0) and occurrence(0, 7)", "1 1", () -> {
                SnippetExpander x = Still.made(FieldEdges::inSession).x;
                return x.occurrence(0, 0) + " " + x.occurrence(0, 7);
            });
        });
    }

    private static void text(Edges e) {
        e.ofPromise(17);
        e.test("Returns this byte of the TEXT; NONE if there is none such.", s -> {
            Bench b = Bench.open("snippet a{a$1}");
            b.type("\u0001\u00ff");
            s.due("each byte", "97 1 255 -1", () -> b.x.text(0) + " " + b.x.text(1) + " " + b.x.text(2) + " " + b.x.text(3));
            s.due("far off", "-1 -1 -1", () -> b.x.text(-1) + " " + b.x.text(LEAST) + " " + b.x.text(MOST));
            s.due("of an empty TEXT", "-1 -1", () -> {
                SnippetExpander x = Bench.open("snippet a{$1}").x;
                return x.text(0) + " " + x.text(-1);
            });
            Bench full = Bench.open("snippet a{$1" + "x".repeat(399) + "y}");
            s.due("of 400 bytes", "120 121 -1", () -> full.x.text(398) + " " + full.x.text(399) + " " + full.x.text(400));
        });
        e.test("Throws IllegalStateException if there is no session", s -> {
            Still.whenThrown(s, "text(0)", FieldEdges::withoutSession, "IllegalStateException", x -> x.text(0));
            s.throwsState("text(-1)", () -> new SnippetExpander().text(-1));
        });
    }

    private static void orderAt(Edges e) {
        e.ofPromise(18);
        e.test("Returns the field at this place of the order of leaving; NONE if there is none such.", s -> {
            SnippetExpander x = Bench.open("snippet a{$0$1$2$3$4$5$6$7$8$9}").x;
            s.due("of all 10", "1 9 0 -1", () -> x.orderAt(0) + " " + x.orderAt(8) + " " + x.orderAt(9) + " " + x.orderAt(10));
            s.due("far off", "-1 -1 -1", () -> x.orderAt(-1) + " " + x.orderAt(LEAST) + " " + x.orderAt(MOST));
            SnippetExpander one = Bench.open("snippet a{$7}").x;
            s.due("of one", "7 -1", () -> one.orderAt(0) + " " + one.orderAt(1));
        });
        e.test("Throws IllegalStateException if there is no session", s -> {
            Still.whenThrown(s, "orderAt(0)", FieldEdges::withoutSession, "IllegalStateException", x -> x.orderAt(0));
            s.throwsState("orderAt(-1)", () -> new SnippetExpander().orderAt(-1));
        });
    }
}
