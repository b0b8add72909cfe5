/** Boundary cases of section 3, and of promises 28 to 37: sessions and acts. */
final class ActEdges {
    private static final int LEAST = Integer.MIN_VALUE;
    private static final int MOST = Integer.MAX_VALUE;

    static void addTo(Edges e) {
        sessions(e);
        innermost(e);
        ends(e);
        expand(e);
        expandRefused(e);
        type(e);
        typeThrows(e);
        erase(e);
        reset(e);
        next(e);
        previous(e);
        go(e);
        finish(e);
        drop(e);
        setOrder(e);
    }

    static Still.Run opened(String library) {
        return b -> {
            b.load(library);
            b.x.expand(0);
        };
    }

    private static String x(int count) {
        return "x".repeat(count);
    }

    private static void sessions(Edges e) {
        e.ofSection(3);
        e.test("There are at most 4 sessions, one inside the other; the depth is their number.", s -> {
            Bench b = Bench.with("snippet a{$1}");
            s.due("none", 0, () -> b.x.size(1));
            for (int depth = 1; depth <= 4; depth++) {
                int due = depth;
                s.due("session " + depth, due, () -> b.x.expand(0));
                s.due("the depth", due, () -> b.x.size(1));
            }
            s.due("a 5th", "-2 4", () -> b.x.expand(0) + " " + b.x.size(1));
            b.x.drop();
            s.due("the 4th again", 4, () -> b.x.expand(0));
        });
        e.test("All but the outermost one were expanded in the current field of the session outside of it.", s -> {
            Bench b = Bench.with("snippet a{$1$2}snippet b{b$1}");
            b.x.expand(0);
            b.x.go(2);
            b.x.expand(1);
            b.x.finish();
            s.due("the field in which it was expanded", " b 4", () -> b.value(1) + " " + b.value(2) + " " + b.x.session(0, 2));
        });
        e.test("Each session has a current field, which is live: at first the first one of the order of leaving.", s -> {
            s.due("by numbers", 1, () -> Bench.open("snippet a{$0$9$1}").x.session(0, 1));
            s.due("by places", 9, () -> Bench.open("order places;snippet a{$0$9$1}").x.session(0, 1));
            s.due("0 alone", 0, () -> Bench.open("snippet a{$0}").x.session(0, 1));
            s.due("9 alone", 9, () -> Bench.open("snippet a{$9}").x.session(0, 1));
            s.due("1 is not live", 2, () -> Bench.open("snippet a{${2:}${2:$1}}").x.session(0, 1));
            s.due("1 is not live by places", 2, () -> Bench.open("order places;snippet a{${2:}${2:$1}}").x.session(0, 1));
        });
    }

    private static void innermost(Edges e) {
        e.test("What is said of the session, of fields and of occurrences means the innermost session.", s -> {
            Still.Run run = b -> {
                b.load("snippet a{aa$9$8${1:$7}}snippet b{b${2:d${4:zz}$4}$3}snippet c{${5:c}$6$5}");
                b.x.expand(0);
                b.type("out");
                b.x.expand(1);
                b.x.go(4);
                b.type("in");
            };
            Still.Question[] acts = {
                SnippetExpander::erase, SnippetExpander::reset, SnippetExpander::next, SnippetExpander::previous, y -> y.go(2), y -> y.go(5),
                SnippetExpander::finish, SnippetExpander::drop, y -> y.expand(2), SnippetExpander::undo, y -> y.lengthIf(3), y -> y.wouldHide(2),
            };
            Still.Question[] others = {y -> y.session(0, 3), y -> y.session(0, 4), y -> y.lengthOf(2), y -> y.lengthOf(0)};
            for (int i = 0; i < acts.length; i++) {
                Still.Question act = acts[i];
                String due = Suite.told(() -> act.of(Still.made(run).x));
                for (int k = 0; k < others.length; k++) {
                    Still.Run asked = Still.then(run, others[k]);
                    s.due("act " + i + " behind question " + k, due, () -> act.of(Still.made(asked).x));
                    Still.same(s, "after act " + i + " behind question " + k, Still.then(run, act), Still.then(asked, act));
                }
            }
        });
    }

    private static void ends(Edges e) {
        e.test("A session ends when it is finished, when its last field is left, or at once if none of its fields is live as it is expanded.", s -> {
            Bench b = Bench.with("snippet a{$1$0}snippet b{}snippet c{${1:}}");
            b.x.expand(0);
            s.due("finished", 0, b.x::finish);
            b.x.expand(0);
            s.due("a field is left that is not the last one", "0 1", () -> b.x.next() + " " + b.x.size(1));
            s.due("the last field is left", "10 0", () -> b.x.next() + " " + b.x.size(1));
            s.due("no field", 0, () -> b.x.expand(1));
            s.due("a field that tells nothing", 1, () -> b.x.expand(2));
        });
        e.test("If it is the outermost one its TEXT is appended to the document (at most 600 bytes).", s -> {
            Bench b = Bench.with("snippet a{" + x(400) + "}snippet b{$1" + x(199) + "}snippet c{}snippet d{$1}");
            b.x.expand(0);
            b.x.expand(1);
            b.type("y");
            s.due("600 bytes", "0 600 121 120", () -> b.x.finish() + " " + b.x.size(2) + " " + b.x.document(400) + " " + b.x.document(599));
            s.due("nothing behind it", "0 600", () -> b.x.expand(2) + " " + b.x.size(2));
            b.x.expand(3);
            s.due("a field that is empty", "10 600", () -> b.x.next() + " " + b.x.size(2));
            b.x.expand(3);
            b.type("z");
            s.due("a 601st byte", "-9 600", () -> b.x.finish() + " " + b.x.size(2));
        });
        e.test("Otherwise the current field of the session outside becomes typed, with what was typed in it (nothing, if it was not typed) "
                + "and the TEXT of the ended session behind it; the current field stays.", s -> {
            Bench b = Bench.with("snippet a{${1:default}$2}snippet b{${3:in}}snippet c{}");
            b.x.expand(0);
            b.x.expand(1);
            b.x.finish();
            s.due("not typed before", "1 in 1", () -> b.x.field(1, 1) + " " + b.value(1) + " " + b.x.session(0, 1));
            b.x.expand(1);
            b.x.next();
            s.due("typed before", "inin 1", () -> b.value(1) + " " + b.x.session(0, 1));
            b.x.reset();
            b.x.expand(2);
            s.due("an empty TEXT", "1 0 1", () -> b.x.field(1, 1) + " " + b.x.field(1, 5) + " " + b.x.session(0, 1));
            Bench full = Bench.with("snippet a{$1}snippet b{" + x(20) + "}");
            full.x.expand(0);
            full.type(x(20));
            s.due("40 bytes", "1 40", () -> full.x.expand(1) + " " + full.x.field(1, 5));
            s.due("60 bytes", "-4 40", () -> full.x.expand(1) + " " + full.x.field(1, 5));
        });
    }

    private static void expand(Edges e) {
        e.ofPromise(28);
        e.test("Expands a snippet: it becomes a session, inside of the innermost one if there is one; "
                + "it ends at once if none of its fields is live.", s -> {
            Bench b = Bench.with("snippet a{}snippet b{$0}snippet c{lit}");
            s.due("an empty one", "0 0 1", () -> b.x.expand(0) + " " + b.x.size(2) + " " + b.x.account(0));
            s.due("one without field", "0 3 2", () -> b.x.expand(2) + " " + b.x.size(2) + " " + b.x.account(0));
            s.due("one with a field", "1 3 3", () -> b.x.expand(1) + " " + b.x.size(2) + " " + b.x.account(0));
            s.due("one without field inside of it", "1 lit 4", () -> b.x.expand(2) + " " + b.text() + " " + b.x.account(0));
            s.due("an empty one inside of it", "1 lit 5", () -> b.x.expand(0) + " " + b.text() + " " + b.x.account(0));
            Bench deep = Bench.with("snippet a{}snippet b{$0}");
            deep.x.expand(1);
            deep.x.expand(1);
            deep.x.expand(1);
            s.due("an empty one inside of 3", 3, () -> deep.x.expand(0));
            deep.x.expand(1);
            s.due("an empty one inside of 4", -2, () -> deep.x.expand(0));
        });
        e.test("Throws IndexOutOfBoundsException if there is no such snippet", s -> {
            for (int snippet : new int[] {-1, 2, LEAST, MOST}) {
                Still.whenThrown(s, "expand(" + snippet + ")", FieldEdges::inSession, "IndexOutOfBoundsException", y -> y.expand(snippet));
            }
            s.throwsIndex("in an empty library", () -> new SnippetExpander().expand(0));
            s.due("the last one of 8", 0, () -> Bench.with(TextEdges.snippets(8)).x.expand(7));
            s.throwsIndex("one behind it", () -> Bench.with(TextEdges.snippets(8)).x.expand(8));
            s.throwsIndex("inside of 4 sessions", () -> {
                Bench b = Bench.with("snippet a{$1}");
                for (int i = 0; i < 4; i++) {
                    b.x.expand(0);
                }
                return b.x.expand(1);
            });
        });
    }

    private static void expandRefused(Edges e) {
        e.test("Returns the depth then; or minus the reason: 2; 3 (its own TEXT); if it would end at once also those of section 4.", s -> {
            s.due("400 bytes", 1, () -> Bench.with("snippet a{$1" + x(400) + "}").x.expand(0));
            Still.whenRefused(s, "401 bytes", b -> b.load("snippet a{$1" + x(401) + "}"), 3, y -> y.expand(0));
            s.due("400 bytes without field", 0, () -> Bench.with("snippet a{" + x(400) + "}").x.expand(0));
            Still.whenRefused(s, "401 bytes without field", b -> b.load("snippet a{" + x(401) + "}"), 3, y -> y.expand(0));
            Still.whenRefused(s, "very many bytes", b -> b.load("snippet a{" + LibraryEdges.steep() + "}"), 3, y -> y.expand(0));
            Still.whenRefused(s, "2 alone", four("$1"), 2, y -> y.expand(0));
            Still.whenRefused(s, "2 ahead of 3", four("$1" + x(401)), 2, y -> y.expand(1));
            Still.whenRefused(s, "2 ahead of 3 at once", four(x(401)), 2, y -> y.expand(1));
            Still.whenRefused(s, "2 ahead of 4 at once", four(x(41)), 2, y -> y.expand(1));
            Still.Run inside = opened("snippet a{$1}snippet b{" + x(401) + "}snippet c{$1" + x(200) + "}");
            Still.whenRefused(s, "its own TEXT ahead of 4", inside, 3, y -> y.expand(1));
            s.due("a session of 200 bytes in a session, which does not end", 2, () -> Still.made(inside).x.expand(2));
            Still.Run full = b -> {
                b.load("snippet a{" + x(200) + "}snippet b{" + x(401) + "}snippet c{x}snippet d{$1" + x(40) + "}");
                b.x.expand(0);
                b.x.expand(0);
                b.x.expand(0);
            };
            Still.whenRefused(s, "its own TEXT ahead of 9", full, 3, y -> y.expand(1));
            Still.whenRefused(s, "9", full, 9, y -> y.expand(2));
            s.due("a session beside a full document, which does not end", 1, () -> Still.made(full).x.expand(3));
        });
        e.test("if it would end at once also those of section 4", s -> {
            String library = "snippet a{" + "$1".repeat(11) + "}snippet b{" + x(36) + "}snippet c{" + x(37) + "}snippet d{" + x(40) + "}"
                    + "snippet e{" + x(41) + "}";
            s.due("36 bytes in 11 places", "1 396", () -> {
                SnippetExpander y = Bench.open(library).x;
                return y.expand(1) + " " + y.session(0, 3);
            });
            Still.whenRefused(s, "37 bytes in 11 places", opened(library), 3, y -> y.expand(2));
            Still.whenRefused(s, "40 bytes in 11 places", opened(library), 3, y -> y.expand(3));
            Still.whenRefused(s, "41 bytes: 4 ahead of 3", opened(library), 4, y -> y.expand(4));
            String ten = "snippet a{" + "$1".repeat(10) + "}snippet b{" + x(40) + "}snippet c{" + x(41) + "}snippet d{}";
            s.due("40 bytes", 1, () -> Bench.open(ten).x.expand(1));
            Still.whenRefused(s, "41 bytes", opened(ten), 4, y -> y.expand(2));
            Still.whenRefused(s, "40 and 40 bytes", Still.then(opened(ten), y -> y.expand(1)), 4, y -> y.expand(1));
            s.due("nothing behind 40 bytes", 1, () -> Still.made(Still.then(opened(ten), y -> y.expand(1))).x.expand(3));
        });
    }

    /** 4 sessions, and a snippet 1 with this body. */
    private static Still.Run four(String body) {
        return b -> {
            b.load("snippet a{$1}snippet b{" + body + "}");
            for (int i = 0; i < 4; i++) {
                b.x.expand(0);
            }
        };
    }

    private static void type(Edges e) {
        e.ofPromise(29);
        e.test("Types the first bytes of the buffer in the current field, behind what was typed in it "
                + "(if it was not typed, it is typed then, with these bytes alone).", s -> {
            Bench b = Bench.open("snippet a{${1:default}}");
            b.put("abc");
            s.due("the first byte", "1 a 1", () -> b.x.type(1) + " " + b.text() + " " + b.x.field(1, 1));
            b.put("defghijklmnopqrstuvwxyz");
            s.due("20 of 23 bytes", "21 adefghijklmnopqrstuvw", () -> b.x.type(20) + " " + b.text());
            Bench empty = Bench.open("snippet a{${1:d}}");
            empty.x.erase();
            s.due("behind a typed empty text", "1 e", () -> empty.type("e") + " " + empty.text());
            Bench full = Bench.open("snippet a{$1}");
            full.put("y" + x(699));
            s.due("of a full buffer", "1 y 0", () -> full.x.type(1) + " " + full.text() + " " + full.x.size(4));
        });
        e.test("The buffer is empty afterwards, also if this is refused.", s -> {
            Bench b = Bench.open("snippet a{$1}");
            b.put("abc");
            s.due("done with less than all", "1 0", () -> b.x.type(1) + " " + b.x.size(4));
            b.type(x(20));
            b.put(x(20) + "yz");
            s.due("refused", "-4 0", () -> b.x.type(20) + " " + b.x.size(4));
            Bench none = new Bench();
            none.put("abc");
            s.due("refused without session", "-1 0", () -> none.x.type(3) + " " + none.x.size(4));
        });
        e.test("Returns how many bytes the value of the field has then; or minus the reason: 1, 4, 3.", s -> {
            Still.whenTypingIsRefused(s, "1", b -> b.put("snippet z{}"), 1, y -> y.type(1));
            Still.Run wide = b -> {
                b.load("snippet a{" + "$1".repeat(20) + "}");
                b.x.expand(0);
                b.type(x(19));
                b.put(x(20) + "yz");
            };
            s.due("20 bytes in 20 places", 20, () -> Still.made(wide).x.type(1));
            Still.whenTypingIsRefused(s, "21 bytes in 20 places", wide, 3, y -> y.type(2));
            Still.whenTypingIsRefused(s, "39 bytes in 20 places", wide, 3, y -> y.type(20));
            Still.Run full = b -> {
                b.load("snippet a{" + "$1".repeat(10) + "x}");
                b.x.expand(0);
                b.type(x(20));
                b.type(x(19));
                b.put("yz");
            };
            Still.whenTypingIsRefused(s, "40 bytes in 10 places and a byte", full, 3, y -> y.type(1));
            Still.whenTypingIsRefused(s, "4 ahead of 3", full, 4, y -> y.type(2));
            Still.Run narrow = b -> {
                b.load("snippet a{$1}");
                b.x.expand(0);
                b.type(x(20));
                b.type(x(19));
                b.put("yz");
            };
            s.due("40 bytes", 40, () -> Still.made(narrow).x.type(1));
            Still.whenTypingIsRefused(s, "41 bytes", narrow, 4, y -> y.type(2));
        });
    }

    private static void typeThrows(Edges e) {
        e.test("bytes: 1 to 20", s -> {
            Bench b = Bench.open("snippet a{$1$2}");
            b.put(x(30));
            s.throwsArgument("0", () -> b.x.type(0));
            s.throwsArgument("21", () -> b.x.type(21));
            s.due("1", 1, () -> b.x.type(1));
            b.x.next();
            b.put(x(30));
            s.due("20", 20, () -> b.x.type(20));
        });
        e.test("Throws IllegalArgumentException if bytes is out of range", s -> {
            for (int bytes : new int[] {0, 21, -1, LEAST, MOST}) {
                Still.whenThrown(s, "type(" + bytes + ")", FieldEdges::inSession, "IllegalArgumentException", y -> y.type(bytes));
                Still.whenThrown(s, "type(" + bytes + ") without session", FieldEdges::withoutSession, "IllegalArgumentException", y -> y.type(bytes));
                s.throwsArgument("type(" + bytes + ") of an empty buffer", () -> Bench.open("snippet a{$1}").x.type(bytes));
            }
        });
        e.test("Throws NoSuchElementException if the buffer has fewer bytes", s -> {
            Still.whenThrown(s, "12 of 11", FieldEdges::inSession, "NoSuchElementException", y -> y.type(12));
            s.due("11 of 11", 11, () -> Still.made(FieldEdges::inSession).x.type(11));
            Still.whenThrown(s, "12 of 11 without session", FieldEdges::withoutSession, "NoSuchElementException", y -> y.type(12));
            s.throwsElement("1 of none", () -> Bench.open("snippet a{$1}").x.type(1));
            s.throwsElement("20 of 19", () -> Still.made(b -> {
                b.load("snippet a{$1}");
                b.x.expand(0);
                b.put(x(19));
            }).x.type(20));
        });
    }

    private static void erase(Edges e) {
        e.ofPromise(30);
        e.test("Takes the last byte of the value of the current field away; the rest of the value is typed then.", s -> {
            Bench b = Bench.open("snippet a{${1:a${2:b}}${2:c}}");
            s.due("of a default", "1 1 a", () -> b.x.erase() + " " + b.x.field(1, 1) + " " + b.value(1));
            s.due("the last byte", "0 1 ", () -> b.x.erase() + " " + b.x.field(1, 1) + " " + b.value(1));
            s.due("no byte", -5, b.x::erase);
            Bench full = Bench.open("snippet a{$1}");
            full.type(x(20));
            full.type(x(20));
            s.due("of 40 bytes", 39, full.x::erase);
            s.due("40 bytes again", 40, () -> full.type("y"));
        });
        e.test("Returns how many bytes the value has then; or minus the reason: 1, 5, 4, 3.", s -> {
            Still.whenRefused(s, "1", FieldEdges::withoutSession, 1, SnippetExpander::erase);
            Still.whenRefused(s, "5", opened("snippet a{$1}"), 5, SnippetExpander::erase);
            Still.whenRefused(s, "5 of an empty default", opened("snippet a{${1:$2}}"), 5, SnippetExpander::erase);
            s.due("40 of 41 bytes", 40, () -> Bench.open("snippet a{${1:" + x(41) + "}}").x.erase());
            Still.whenRefused(s, "41 of 42 bytes", opened("snippet a{${1:" + x(42) + "}}"), 4, SnippetExpander::erase);
            Still.whenRefused(s, "399 of 400 bytes", opened("snippet a{${1:" + x(400) + "}}"), 4, SnippetExpander::erase);
            s.due("400 bytes of TEXT then", 1, () -> Bench.open("snippet a{${1:${2:xx}}${2:" + x(399) + "}}").x.erase());
            Still.whenRefused(s, "401 bytes of TEXT then", opened("snippet a{${1:${2:xx}}${2:" + x(400) + "}}"), 3, SnippetExpander::erase);
            Still.whenRefused(s, "5 ahead of 3", opened("snippet a{${1:${2:}}${2:" + x(401) + "}}"), 5, SnippetExpander::erase);
            Still.whenRefused(s, "4 ahead of 3", opened("snippet a{${1:${2:" + x(42) + "}}${2:" + x(400) + "}}"), 4, SnippetExpander::erase);
        });
    }

    private static void reset(Edges e) {
        e.ofPromise(31);
        e.test("Makes the current field not typed.", s -> {
            Bench b = Bench.open("snippet a{${1:" + x(398) + "}$2}");
            b.type("q");
            s.due("a long default", "398 0", () -> b.x.reset() + " " + b.x.field(1, 1));
            b.x.next();
            b.type("q");
            s.due("no default", "0 0", () -> b.x.reset() + " " + b.x.field(2, 1));
            Bench empty = Bench.open("snippet a{${1:d}}");
            empty.x.erase();
            s.due("typed with an empty text", "1 0 d", () -> empty.x.reset() + " " + empty.x.field(1, 1) + " " + empty.text());
        });
        e.test("Returns how many bytes its value has then; or minus the reason: 1, 6, 3.", s -> {
            String library = "snippet a{${1:" + x(200) + "}$1$2}";
            Still.Run typed = b -> {
                opened(library).on(b);
                b.type("q");
            };
            Still.Run over = b -> {
                typed.on(b);
                b.x.go(2);
                b.type("z");
                b.x.go(1);
            };
            Still.whenRefused(s, "1", FieldEdges::withoutSession, 1, SnippetExpander::reset);
            Still.whenRefused(s, "6", opened(library), 6, SnippetExpander::reset);
            s.due("400 bytes of TEXT then", 200, () -> Still.made(typed).x.reset());
            Still.whenRefused(s, "401 bytes of TEXT then", over, 3, SnippetExpander::reset);
            Still.whenRefused(s, "6 a second time", Still.then(typed, SnippetExpander::reset), 6, SnippetExpander::reset);
        });
    }

    private static void next(Edges e) {
        e.ofPromise(32);
        e.test("Leaves the current field for the next one of the order of leaving; if there is none, the session ends.", s -> {
            Bench b = Bench.open("snippet a{$0$9$8$7$6$5$4$3$2$1}");
            for (int field = 2; field <= 10; field++) {
                int due = field % 10;
                s.due("to " + due, due, b.x::next);
            }
            s.due("behind 0", "10 0", () -> b.x.next() + " " + b.x.size(1));
            Bench one = Bench.open("order places;snippet a{$9$1}");
            s.due("from 9 to 1 by places", 1, one.x::next);
            s.due("behind 1 by places", 10, one.x::next);
        });
        e.test("Returns the current field of the innermost session then; 10 if there is no session any more; or minus the reason: 1; "
                + "if the session would end also those of section 4.", s -> {
            Bench b = Bench.with("snippet a{$9$0}snippet b{$1$2}");
            b.x.expand(0);
            b.x.go(0);
            b.x.expand(1);
            s.due("the next one", "2 2", () -> b.x.next() + " " + b.x.size(1));
            s.due("that of the session outside, which stays the last one", "0 1", () -> b.x.next() + " " + b.x.size(1));
            s.due("no session any more", "10 0", () -> b.x.next() + " " + b.x.size(1));
            Still.whenRefused(s, "1", FieldEdges::withoutSession, 1, SnippetExpander::next);
            Still.Run full = b2 -> {
                b2.load("snippet a{$1$2}snippet b{" + x(300) + "}");
                b2.x.expand(1);
                b2.x.expand(1);
                b2.x.expand(0);
                b2.type("x");
            };
            s.due("the next one while the session could not end", 2, () -> Still.made(full).x.next());
            Still.whenRefused(s, "9", Still.then(full, SnippetExpander::next), 9, SnippetExpander::next);
            Still.whenRefused(s, "4", inner("$1", 40, "$1$2x", SnippetExpander::next), 4, SnippetExpander::next);
            Still.whenRefused(s, "3", inner("$1".repeat(11), 35, "$1$2xx", SnippetExpander::next), 3, SnippetExpander::next);
            Still.whenRefused(s, "4 ahead of 3", inner("$1".repeat(10) + "y", 39, "$1$2xx", SnippetExpander::next), 4, SnippetExpander::next);
            s.due("40 bytes", 1, () -> Still.made(inner("$1", 39, "$1$2x", SnippetExpander::next)).x.next());
        });
    }

    /** A session with so many bytes in its field 1, in it another session, and a call of this one. */
    private static Still.Run inner(String outside, int typed, String inside, Still.Question behind) {
        return b -> {
            b.load("snippet a{" + outside + "}snippet b{" + inside + "}snippet c{" + x(typed) + "}");
            b.x.expand(0);
            b.x.expand(2);
            b.x.expand(1);
            behind.of(b.x);
        };
    }

    private static void previous(Edges e) {
        e.ofPromise(33);
        e.test("Goes back to the field ahead of the current one in the order of leaving.", s -> {
            Bench b = Bench.open("snippet a{$0$9$8$7$6$5$4$3$2$1}");
            b.x.go(0);
            for (int field = 9; field >= 1; field--) {
                int due = field;
                s.due("to " + due, due, b.x::previous);
            }
            s.due("ahead of the first one", "-7 1", () -> b.x.previous() + " " + b.x.session(0, 1));
        });
        e.test("Returns the current field then; or minus the reason: 1, 7.", s -> {
            Still.whenRefused(s, "1", FieldEdges::withoutSession, 1, SnippetExpander::previous);
            Still.whenRefused(s, "7", opened("snippet a{$1$2}"), 7, SnippetExpander::previous);
            Still.whenRefused(s, "7 of 0 alone", opened("snippet a{$0}"), 7, SnippetExpander::previous);
            Still.whenRefused(s, "7 by places", opened("order places;snippet a{$2$1}"), 7, SnippetExpander::previous);
            s.due("from 1 to 2 by places", 2, () -> Still.made(Still.then(opened("order places;snippet a{$2$1}"), y -> y.go(1))).x.previous());
            s.due("behind a session that was dropped", "8 1 -7", () -> {
                Bench b = Bench.with("snippet a{$9$8$1}snippet b{$4$3$9$2}");
                b.x.expand(0);
                b.x.go(9);
                b.x.expand(1);
                b.x.drop();
                return b.x.previous() + " " + b.x.previous() + " " + b.x.previous();
            });
            s.due("no field ahead that is live", -7, () -> {
                Bench b = Bench.open("order places;snippet a{${1:$2}$2}");
                b.type("t");
                return b.x.previous();
            });
        });
    }

    private static void go(Edges e) {
        e.ofPromise(34);
        e.test("Returns the field that was the current one before; or minus the reason: 1, 8.", s -> {
            Bench b = Bench.open("snippet a{$0$9$1}");
            s.due("to 9", "1 9", () -> b.x.go(9) + " " + b.x.session(0, 1));
            s.due("to 0", "9 0", () -> b.x.go(0) + " " + b.x.session(0, 1));
            s.due("to where it is", "0 0", () -> b.x.go(0) + " " + b.x.session(0, 1));
            Still.whenRefused(s, "1", FieldEdges::withoutSession, 1, y -> y.go(1));
            Still.whenRefused(s, "8 of one that does not occur", opened("snippet a{$1}"), 8, y -> y.go(2));
            Still.whenRefused(s, "8 of one that is not shown", opened("snippet a{${1:}${1:$2}}"), 8, y -> y.go(2));
            s.due("one that is shown once of two times", 1, () -> Bench.open("snippet a{${1:}${1:$2}$2}").x.go(2));
        });
        e.test("Throws IndexOutOfBoundsException if there is no such field", s -> {
            for (int field : new int[] {-1, 10, LEAST, MOST}) {
                Still.whenThrown(s, "go(" + field + ")", FieldEdges::inSession, "IndexOutOfBoundsException", y -> y.go(field));
                Still.whenThrown(s, "go(" + field + ") without session", FieldEdges::withoutSession, "IndexOutOfBoundsException", y -> y.go(field));
            }
        });
    }

    private static void finish(Edges e) {
        e.ofPromise(35);
        e.test("Returns the depth then; or minus the reason: 1; those of section 4.", s -> {
            Bench b = Bench.with("snippet a{$1}");
            for (int i = 0; i < 4; i++) {
                b.x.expand(0);
            }
            s.due("4 times", "3 2 1 0", () -> b.x.finish() + " " + b.x.finish() + " " + b.x.finish() + " " + b.x.finish());
            Still.whenRefused(s, "1", FieldEdges::withoutSession, 1, SnippetExpander::finish);
            Still.Run full = c -> {
                c.load("snippet a{$1" + x(300) + "}");
                c.x.expand(0);
                c.x.finish();
                c.x.expand(0);
            };
            s.due("600 bytes of the document", "0 600", () -> {
                Bench c = Still.made(full);
                return c.x.finish() + " " + c.x.size(2);
            });
            Still.whenRefused(s, "9", c -> {
                full.on(c);
                c.type("x");
            }, 9, SnippetExpander::finish);
            s.due("40 bytes", 1, () -> Still.made(inner("$1", 39, "$1x", SnippetExpander::yielded)).x.finish());
            Still.whenRefused(s, "4", inner("$1", 40, "$1x", SnippetExpander::yielded), 4, SnippetExpander::finish);
            s.due("400 bytes of TEXT outside", 1, () -> Still.made(inner("$1".repeat(10), 39, "$1x", SnippetExpander::yielded)).x.finish());
            Still.whenRefused(s, "3", inner("$1".repeat(10) + "y", 39, "$1x", SnippetExpander::yielded), 3, SnippetExpander::finish);
            Still.whenRefused(s, "4 ahead of 3", inner("$1".repeat(10) + "y", 39, "$1xx", SnippetExpander::yielded), 4, SnippetExpander::finish);
        });
    }

    private static void drop(Edges e) {
        e.ofPromise(36);
        e.test("The innermost session is gone; its TEXT goes nowhere.", s -> {
            Bench b = Bench.with("snippet a{a$1}");
            b.x.expand(0);
            b.x.expand(0);
            s.due("inside", "1 0 a", () -> b.x.drop() + " " + b.x.field(1, 1) + " " + b.text());
            s.due("outermost", "0 0", () -> b.x.drop() + " " + b.x.size(2));
        });
        e.test("Returns the depth then; or minus the reason: 1.", s -> {
            Bench b = Bench.with("snippet a{$1}");
            for (int i = 0; i < 4; i++) {
                b.x.expand(0);
            }
            s.due("4 times", "3 2 1 0", () -> b.x.drop() + " " + b.x.drop() + " " + b.x.drop() + " " + b.x.drop());
            Still.whenRefused(s, "1", FieldEdges::withoutSession, 1, SnippetExpander::drop);
            s.due("a session that could not end", 1, () -> Still.made(inner("$1", 40, "$1x", SnippetExpander::yielded)).x.drop());
        });
    }

    private static void setOrder(Edges e) {
        e.ofPromise(37);
        e.test("Returns 1 if it was \"places\" before, otherwise 0.", s -> {
            SnippetExpander x = new SnippetExpander();
            s.due("a new object", "0 1", () -> x.setOrder(true) + " " + x.size(3));
            s.due("the same again", "1 1 2", () -> x.setOrder(true) + " " + x.size(3) + " " + x.account(0));
            s.due("back", "1 0", () -> x.setOrder(false) + " " + x.size(3));
            s.due("the same again", "0 0 4", () -> x.setOrder(false) + " " + x.size(3) + " " + x.account(0));
        });
        e.test("Sets the order of leaving for all sessions.", s -> {
            Bench b = Bench.with("snippet a{$2$1}");
            b.x.expand(0);
            b.x.expand(0);
            b.x.setOrder(true);
            s.due("of the inner one", "21 1", () -> b.order() + " " + b.x.session(1, 1));
            b.x.drop();
            s.due("of the outer one", "21 1", () -> b.order() + " " + b.x.session(0, 1));
            s.due("without session", 1, () -> {
                b.x.drop();
                return b.x.setOrder(false);
            });
        });
    }
}
