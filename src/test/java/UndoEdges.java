/** Boundary cases of sections 4 and 6, and of promises 38 to 40: reasons, exceptions, undo and saved states. */
final class UndoEdges {
    private static final int LEAST = Integer.MIN_VALUE;
    private static final int MOST = Integer.MAX_VALUE;
    private static final String INDEX = "IndexOutOfBoundsException";
    private static final String ARGUMENT = "IllegalArgumentException";
    private static final String STATE = "IllegalStateException";

    static void addTo(Edges e) {
        acts(e);
        withoutSession(e);
        limits(e);
        otherReasons(e);
        ends(e);
        refused(e);
        eightActs(e);
        exceptions(e);
        exceptionsFirst(e);
        indexes(e);
        undo(e);
        undoThrows(e);
        save(e);
        restore(e);
        restoreThrows(e);
    }

    private static String x(int count) {
        return "x".repeat(count);
    }

    /** This session, in it one of the second snippet if there is one. */
    private static Still.Run in(String library) {
        return b -> {
            b.load(library);
            b.x.expand(0);
            if (b.x.size(0) > 1) {
                b.x.expand(1);
            }
        };
    }

    private static void acts(Edges e) {
        e.ofSection(4);
        e.test("Acts are the methods from expand() to setOrder().", s -> {
            Bench b = Bench.open("snippet a{$1}");
            b.x.save(0);
            b.put("x");
            b.x.find();
            b.x.lengthIf(1);
            b.x.wouldHide(1);
            b.x.lengthOf(0);
            s.due("no act but the first one", "1 1", () -> b.x.account(0) + " " + b.x.size(5));
            b.x.undo();
            b.x.restore(0);
            b.load("snippet a{$1}");
            s.due("no act but the first one", "1 0", () -> b.x.account(0) + " " + b.x.size(5));
            b.x.expand(0);
            b.type("ab");
            b.x.erase();
            b.x.reset();
            b.x.go(1);
            b.x.expand(0);
            b.x.next();
            b.x.expand(0);
            b.x.finish();
            b.x.drop();
            b.x.setOrder(false);
            s.due("11 acts", "12 8", () -> b.x.account(0) + " " + b.x.size(5));
        });
        e.test("An act is done, or refused with a reason: the first one that applies of those listed with the method.", s -> {
            Bench four = Still.made(b -> {
                b.load("snippet a{$1}snippet b{" + x(401) + "}snippet c{$1" + x(42) + "}");
                for (int i = 0; i < 4; i++) {
                    b.x.expand(i == 3 ? 2 : 0);
                }
            });
            s.due("expand: 2 ahead of 3", -2, () -> four.x.expand(1));
            s.due("finish: 4", -4, four.x::finish);
            four.x.drop();
            s.due("expand: 3 ahead of 4", -3, () -> four.x.expand(1));
            s.due("each is counted once", "1 1 1", () -> four.x.account(2) + " " + four.x.account(3) + " " + four.x.account(4));
            s.due("type: 4 ahead of 3", -4, () -> {
                Bench b = Bench.open("snippet a{" + "$1".repeat(11) + "}");
                b.type(x(20));
                b.type(x(16));
                return b.type(x(5));
            });
            s.due("type: 3 alone", -3, () -> {
                Bench b = Bench.open("snippet a{" + "$1".repeat(11) + "}");
                b.type(x(20));
                b.type(x(16));
                return b.type(x(4));
            });
            s.due("erase: 5 ahead of 3", -5, () -> Bench.open("snippet a{${1:${2:}}${2:" + x(401) + "}}").x.erase());
            s.due("reset: 6 ahead of all", -6, () -> Bench.open("snippet a{${1:" + x(400) + "}}").x.reset());
        });
    }

    private static void withoutSession(Edges e) {
        e.test("1 there is no session", s -> {
            Still.Run run = FieldEdges::withoutSession;
            Still.whenTypingIsRefused(s, "type(1)", run, 1, y -> y.type(1));
            Still.whenRefused(s, "erase()", run, 1, SnippetExpander::erase);
            Still.whenRefused(s, "reset()", run, 1, SnippetExpander::reset);
            Still.whenRefused(s, "next()", run, 1, SnippetExpander::next);
            Still.whenRefused(s, "previous()", run, 1, SnippetExpander::previous);
            Still.whenRefused(s, "go(0)", run, 1, y -> y.go(0));
            Still.whenRefused(s, "go(9)", run, 1, y -> y.go(9));
            Still.whenRefused(s, "finish()", run, 1, SnippetExpander::finish);
            Still.whenRefused(s, "drop()", run, 1, SnippetExpander::drop);
            s.due("expand(0) is done", 1, () -> Still.made(run).x.expand(0));
            s.due("setOrder(true) is done", 0, () -> Still.made(run).x.setOrder(true));
            s.due("of a new object", "-1 -1 -1 -1 -1 -1 -1", () -> {
                SnippetExpander y = new SnippetExpander();
                return y.erase() + " " + y.reset() + " " + y.next() + " " + y.previous() + " " + y.go(0) + " " + y.finish() + " " + y.drop();
            });
        });
        e.test("2 there are 4 sessions", s -> {
            Still.Run three = b -> {
                b.load("snippet a{$1}snippet b{}");
                b.x.expand(0);
                b.x.expand(0);
                b.x.expand(0);
            };
            s.due("a 4th", 4, () -> Still.made(three).x.expand(0));
            s.due("a 4th that ends at once", 3, () -> Still.made(three).x.expand(1));
            Still.Run four = Still.then(three, y -> y.expand(0));
            Still.whenRefused(s, "a 5th", four, 2, y -> y.expand(0));
            Still.whenRefused(s, "a 5th that would end at once", four, 2, y -> y.expand(1));
        });
    }

    private static void limits(Edges e) {
        e.test("3 the TEXT of a session would be longer than 400 bytes", s -> {
            s.due("expand: 400", 1, () -> Bench.with("snippet a{$1" + x(400) + "}").x.expand(0));
            s.due("expand: 401", -3, () -> Bench.with("snippet a{$1" + x(401) + "}").x.expand(0));
            s.due("type: 400", 1, () -> Bench.open("snippet a{$1" + x(399) + "}").type("a"));
            s.due("type: 401", -3, () -> Bench.open("snippet a{$1" + x(399) + "}").type("ab"));
            s.due("erase: 400", 0, () -> Bench.open("snippet a{${1:${2:x}}${2:" + x(400) + "}}").x.erase());
            s.due("erase: 401", -3, () -> Bench.open("snippet a{${1:${2:x}}${2:" + x(401) + "}}").x.erase());
            for (int length : new int[] {400, 401}) {
                Bench b = Bench.open("snippet a{${1:" + x(399) + "}$2}");
                b.type("x");
                b.x.go(2);
                b.type(x(length - 399));
                b.x.go(1);
                s.due("reset: " + length, length == 400 ? 399 : -3, b.x::reset);
            }
            s.due("next: 400", 1, () -> Still.made(in("snippet a{$1" + x(399) + "}snippet b{$1x}")).x.next());
            s.due("next: 401", -3, () -> Still.made(in("snippet a{$1" + x(399) + "}snippet b{$1xx}")).x.next());
            s.due("finish: 400", 1, () -> Still.made(in("snippet a{$1" + x(399) + "}snippet b{$1x}")).x.finish());
            s.due("finish: 401", -3, () -> Still.made(in("snippet a{$1" + x(399) + "}snippet b{$1xx}")).x.finish());
            s.due("expand at once: 400", 1, () -> Bench.open("snippet a{$1" + x(399) + "}snippet b{x}").x.expand(1));
            s.due("expand at once: 401", -3, () -> Bench.open("snippet a{$1" + x(399) + "}snippet b{xx}").x.expand(1));
        });
        e.test("4 what is typed in a field would be longer than 40 bytes", s -> {
            for (int more : new int[] {20, 19}) {
                Bench b = Bench.open("snippet a{$1}");
                b.type(x(20));
                b.type(x(more));
                s.due("type: " + (more + 21), more == 19 ? 40 : -4, () -> b.type("y"));
            }
            s.due("erase: 40", 40, () -> Bench.open("snippet a{${1:" + x(41) + "}}").x.erase());
            s.due("erase: 41", -4, () -> Bench.open("snippet a{${1:" + x(42) + "}}").x.erase());
            s.due("next: 40", 1, () -> Still.made(in("snippet a{$1}snippet b{$1" + x(40) + "}")).x.next());
            s.due("next: 41", -4, () -> Still.made(in("snippet a{$1}snippet b{$1" + x(41) + "}")).x.next());
            s.due("finish: 40", 1, () -> Still.made(in("snippet a{$1}snippet b{$1" + x(40) + "}")).x.finish());
            s.due("finish: 41", -4, () -> Still.made(in("snippet a{$1}snippet b{$1" + x(41) + "}")).x.finish());
            s.due("expand at once: 40", 1, () -> Bench.open("snippet a{$1}snippet b{" + x(40) + "}").x.expand(1));
            s.due("expand at once: 41", -4, () -> Bench.open("snippet a{$1}snippet b{" + x(41) + "}").x.expand(1));
        });
        e.test("9 the document would be longer than 600 bytes", s -> {
            for (int length : new int[] {200, 201}) {
                Still.Run run = b -> {
                    b.load("snippet a{" + x(400) + "}snippet b{$1" + x(length) + "}");
                    b.x.expand(0);
                    b.x.expand(1);
                };
                String due = length == 200 ? "600" : "-9 400";
                s.due("finish: " + (400 + length), length == 200 ? "0 600" : due, () -> told(Still.made(run), SnippetExpander::finish));
                s.due("next: " + (400 + length), length == 200 ? "10 600" : due, () -> told(Still.made(run), SnippetExpander::next));
                Bench atOnce = Bench.with("snippet a{" + x(400) + "}snippet b{" + x(length) + "}");
                atOnce.x.expand(0);
                s.due("expand at once: " + (400 + length), length == 200 ? "0 600" : due, () -> told(atOnce, y -> y.expand(1)));
            }
        });
    }

    private static String told(Bench b, Still.Question act) {
        return act.of(b.x) + " " + b.x.size(2);
    }

    private static void otherReasons(Edges e) {
        e.test("5 the value is empty", s -> {
            s.due("a byte", 0, () -> Bench.open("snippet a{${1:x}}").x.erase());
            s.due("an empty default", -5, () -> Bench.open("snippet a{${1:}}").x.erase());
            s.due("no default", -5, () -> Bench.open("snippet a{$1}").x.erase());
            s.due("typed with an empty text", "0 -5", () -> {
                SnippetExpander y = Bench.open("snippet a{${1:x}}").x;
                return y.erase() + " " + y.erase();
            });
        });
        e.test("6 the field is not typed", s -> {
            s.due("never typed", -6, () -> Bench.open("snippet a{${1:x}}").x.reset());
            s.due("typed with an empty text", "0 1", () -> {
                SnippetExpander y = Bench.open("snippet a{${1:x}}").x;
                return y.erase() + " " + y.reset();
            });
            s.due("another field is typed", -6, () -> {
                Bench b = Bench.open("snippet a{$1$2}");
                b.type("x");
                b.x.next();
                return b.x.reset();
            });
        });
        e.test("7 there is no field ahead of it in the order of leaving", s -> {
            s.due("the first one", -7, () -> Bench.open("snippet a{$1$2}").x.previous());
            s.due("the second one", "2 1", () -> {
                SnippetExpander y = Bench.open("snippet a{$1$2}").x;
                return y.next() + " " + y.previous();
            });
            s.due("0 alone", -7, () -> Bench.open("snippet a{$0}").x.previous());
            s.due("0 behind 1", 1, () -> {
                SnippetExpander y = Bench.open("snippet a{$0$1}").x;
                y.go(0);
                return y.previous();
            });
        });
        e.test("8 the field is not live", s -> {
            s.due("no occurrence", -8, () -> Bench.open("snippet a{$1}").x.go(0));
            s.due("no shown occurrence", -8, () -> Bench.open("snippet a{${1:}${1:$9}}").x.go(9));
            s.due("a shown one", 1, () -> Bench.open("snippet a{${1:$9}}").x.go(9));
        });
    }

    private static void ends(Edges e) {
        e.test("If a session would end by an act, that may be refused: with reason 9 for the outermost one, otherwise with reason 4 "
                + "(asked of the current field of the session outside) or 3 (asked of that session), in this order.", s -> {
            Still.Run full = b -> {
                b.load("snippet a{$1" + x(300) + "}snippet b{$1" + x(40) + "}");
                b.x.expand(0);
                b.x.finish();
                b.x.expand(0);
                b.x.finish();
                b.x.expand(1);
            };
            s.due("9 of the outermost one", -9, () -> Still.made(full).x.finish());
            s.due("no 9 of an inner one", 1, () -> Still.made(Still.then(full, y -> y.expand(1))).x.finish());
            s.due("no 4 of the outermost one", 0, () -> Bench.open("snippet a{$1" + x(41) + "}").x.finish());
            Still.Run both = in("snippet a{$1" + x(390) + "}snippet b{$1" + x(41) + "}");
            s.due("4 ahead of 3", "-4 -4", () -> {
                SnippetExpander y = Still.made(both).x;
                return y.finish() + " " + y.next();
            });
            s.due("3 of the session outside alone", 2, () -> {
                Bench b = Bench.with("snippet a{$1" + x(390) + "}snippet b{$1}snippet c{$1" + x(20) + "}");
                b.x.expand(0);
                b.x.expand(1);
                b.x.expand(2);
                return b.x.finish();
            });
            s.due("its current field alone", 1, () -> {
                Bench b = Bench.with("snippet a{$1$2}snippet b{" + x(40) + "}");
                b.x.expand(0);
                b.x.expand(1);
                b.x.next();
                return b.x.expand(1);
            });
            s.due("a default outside that goes", 1, () -> Still.made(in("snippet a{${1:" + x(390) + "}}snippet b{$1" + x(40) + "}")).x.finish());
            s.due("a default outside that shows up", -3, () -> Still.made(in("snippet a{${1:${2:}}${2:" + x(361) + "}}snippet b{$1" + x(40) + "}")).x.finish());
        });
    }

    private static void refused(Edges e) {
        e.test("A refused act changes nothing but the accounts and, of type(), the buffer.", s -> {
            Still.whenRefused(s, "expand: 2", Still.then(Still.then(UndoEdges::rich, y -> y.expand(1)), y -> y.expand(1)), 2, y -> y.expand(1));
            Still.whenRefused(s, "expand: 3", UndoEdges::rich, 3, y -> y.expand(3));
            Still.whenRefused(s, "expand: 4", UndoEdges::rich, 4, y -> y.expand(2));
            Still.whenTypingIsRefused(s, "type: 4", UndoEdges::rich, 4, y -> y.type(20));
            Still.whenTypingIsRefused(s, "type: 3", Still.then(UndoEdges::rich, y -> y.go(0)), 3, y -> y.type(20));
            Still.whenRefused(s, "erase: 5", Still.then(UndoEdges::rich, y -> y.go(2)), 5, SnippetExpander::erase);
            Still.whenRefused(s, "reset: 6", Still.then(UndoEdges::rich, y -> y.go(2)), 6, SnippetExpander::reset);
            Still.whenRefused(s, "next: 4", Still.then(UndoEdges::rich, y -> y.go(0)), 4, SnippetExpander::next);
            Still.whenRefused(s, "previous: 7", UndoEdges::rich, 7, SnippetExpander::previous);
            Still.whenRefused(s, "go: 8", UndoEdges::rich, 8, y -> y.go(9));
            Still.whenRefused(s, "finish: 4", UndoEdges::rich, 4, SnippetExpander::finish);
        });
    }

    /** A session inside of one of its kind, with something in each part; its current field 1 has 30 bytes. */
    private static void rich(Bench b) {
        b.load("order places;snippet a{${1:d}" + "$0".repeat(30) + "$2}snippet b{$1}snippet lit{" + x(11) + "}snippet big{" + x(401) + "}");
        b.x.expand(2);
        b.x.expand(0);
        b.type("out");
        b.x.save(0);
        b.x.expand(0);
        b.x.go(0);
        b.type("0");
        b.x.go(1);
        b.type(x(20));
        b.type(x(10));
        b.put("snippet z{${1:" + x(10) + "}}");
    }

    private static void eightActs(Edges e) {
        e.test("The latest 8 acts that were done can be undone, also if nothing is different by them.", s -> {
            for (int acts : new int[] {1, 7, 8, 9, 15, 16, 17, 40}) {
                Bench b = Bench.open("snippet a{$1}");
                for (int i = 1; i < acts; i++) {
                    b.x.go(1);
                }
                int due = Math.min(acts, 8);
                s.due("acts to undo after " + acts, due, () -> b.x.size(5));
                for (int left = due - 1; left >= 0; left--) {
                    s.due("undo with " + left + " left", left, b.x::undo);
                }
                s.throwsState("undo of one more", b.x::undo);
                s.due("the depth then", acts <= 8 ? 0 : 1, () -> b.x.size(1));
            }
            Bench b = Bench.open("snippet a{$1}");
            for (int i = 0; i < 9; i++) {
                b.type(String.valueOf(i));
            }
            for (int left = 7; left >= 0; left--) {
                int kept = left + 1;
                s.due("undo", "012345678".substring(0, kept), () -> {
                    b.x.undo();
                    return b.value(1);
                });
            }
            Bench refused = Bench.open("snippet a{$1}");
            for (int i = 0; i < 9; i++) {
                refused.x.go(2);
            }
            s.due("acts that were refused do not count", "1 0", () -> refused.x.size(5) + " " + refused.x.undo());
        });
    }

    private static void exceptions(Edges e) {
        e.ofSection(6);
        e.test("A method that throws an exception changes nothing.", s -> {
            Still.Run run = FieldEdges::inSession;
            Still.whenThrown(s, "append", b -> {
                run.on(b);
                b.put("x".repeat(700 - b.x.size(4)));
            }, STATE, y -> y.append(0, 0, 0, 0, 1));
            Still.whenThrown(s, "size(6)", run, ARGUMENT, y -> y.size(6));
            Still.whenThrown(s, "snippet(2, 0)", run, INDEX, y -> y.snippet(2, 0));
            Still.whenThrown(s, "letter(2, 0)", run, INDEX, y -> y.letter(2, 0));
            Still.whenThrown(s, "depends(0, 10)", run, INDEX, y -> y.depends(0, 10));
            Still.whenThrown(s, "document(3)", run, INDEX, y -> y.document(3));
            Still.whenThrown(s, "session(2, 0)", run, INDEX, y -> y.session(2, 0));
            Still.whenThrown(s, "account(10)", run, ARGUMENT, y -> y.account(10));
            Still.whenThrown(s, "field(1, 7)", run, ARGUMENT, y -> y.field(1, 7));
            Still.whenThrown(s, "value(10, 0)", run, INDEX, y -> y.value(10, 0));
            Still.whenThrown(s, "occurrence(3, 0)", run, INDEX, y -> y.occurrence(3, 0));
            Still.whenThrown(s, "why(10)", run, INDEX, y -> y.why(10));
            Still.whenThrown(s, "lengthIf(21)", run, ARGUMENT, y -> y.lengthIf(21));
            Still.whenThrown(s, "wouldHide(10)", run, INDEX, y -> y.wouldHide(10));
            Still.whenThrown(s, "lengthOf(2)", run, INDEX, y -> y.lengthOf(2));
            Still.whenThrown(s, "expand(2)", run, INDEX, y -> y.expand(2));
            Still.whenThrown(s, "type(21)", run, ARGUMENT, y -> y.type(21));
            Still.whenThrown(s, "type(12)", run, "NoSuchElementException", y -> y.type(12));
            Still.whenThrown(s, "go(10)", run, INDEX, y -> y.go(10));
            Still.whenThrown(s, "undo()", b -> {
                run.on(b);
                for (int i = b.x.size(5); i > 0; i--) {
                    b.x.undo();
                }
            }, STATE, SnippetExpander::undo);
            Still.whenThrown(s, "save(2)", run, INDEX, y -> y.save(2));
            Still.whenThrown(s, "restore(2)", run, INDEX, y -> y.restore(2));
            Still.whenThrown(s, "restore(0)", run, STATE, y -> y.restore(0));
        });
    }

    private static void exceptionsFirst(Edges e) {
        e.test("If several exceptions apply, the one that comes first in the method's list is thrown.", s -> {
            Bench b = Still.made(FieldEdges::inSession);
            Bench none = Still.made(FieldEdges::withoutSession);
            s.throwsIndex("snippet(2, 6)", () -> b.x.snippet(2, 6));
            s.throwsIndex("session(2, 5)", () -> b.x.session(2, 5));
            s.throwsIndex("field(10, 7)", () -> b.x.field(10, 7));
            s.throwsIndex("field(10, 7) without session", () -> none.x.field(10, 7));
            s.throwsIndex("field(10, 0) without session", () -> none.x.field(10, 0));
            s.throwsArgument("field(0, 7) without session", () -> none.x.field(0, 7));
            s.throwsIndex("value(10, 0) without session", () -> none.x.value(10, 0));
            s.throwsIndex("occurrence(3, 8)", () -> b.x.occurrence(3, 8));
            s.throwsState("occurrence(3, 8) without session", () -> none.x.occurrence(3, 8));
            s.throwsState("occurrence(0, 8) without session", () -> none.x.occurrence(0, 8));
            s.throwsState("occurrence(3, 0) without session", () -> none.x.occurrence(3, 0));
            s.throwsIndex("why(10) without session", () -> none.x.why(10));
            s.throwsArgument("lengthIf(0) without session", () -> none.x.lengthIf(0));
            s.throwsArgument("lengthIf(21) without session", () -> none.x.lengthIf(21));
            s.throwsIndex("wouldHide(10) without session", () -> none.x.wouldHide(10));
            s.throwsArgument("type(21) of 11 bytes", () -> b.x.type(21));
            s.throwsIndex("restore(2), where nothing is saved", () -> none.x.restore(2));
        });
        e.test("Exceptions come ahead of reasons.", s -> {
            Still.Run four = b -> {
                b.load("snippet a{$1}");
                for (int i = 0; i < 4; i++) {
                    b.x.expand(0);
                }
            };
            Still.whenThrown(s, "expand(1) with 4 sessions", four, INDEX, y -> y.expand(1));
            Still.whenThrown(s, "go(10) without session", FieldEdges::withoutSession, INDEX, y -> y.go(10));
            Still.whenThrown(s, "type(0) without session", FieldEdges::withoutSession, ARGUMENT, y -> y.type(0));
            Still.whenThrown(s, "type(12) of 11 bytes without session", FieldEdges::withoutSession, "NoSuchElementException", y -> y.type(12));
            Still.Run full = b -> {
                b.load("snippet a{$1}");
                b.x.expand(0);
                b.type(x(20));
                b.type(x(20));
                b.put("snippet z{}");
            };
            Still.whenThrown(s, "type(21) in a full field", full, ARGUMENT, y -> y.type(21));
            Still.whenThrown(s, "type(12) of 11 bytes in a full field", full, "NoSuchElementException", y -> y.type(12));
            Still.whenTypingIsRefused(s, "type(11) in a full field", full, 4, y -> y.type(11));
        });
    }

    private static void indexes(Edges e) {
        e.test("An IndexOutOfBoundsException is thrown for a snippet, a field (0 to 9), an occurrence, a level or a saved state that does not exist.", s -> {
            Bench b = Still.made(FieldEdges::inSession);
            for (int wrong : new int[] {-1, LEAST, MOST}) {
                s.throwsIndex("snippet " + wrong, () -> b.x.lengthOf(wrong));
                s.throwsIndex("field " + wrong, () -> b.x.field(wrong, 0));
                s.throwsIndex("occurrence " + wrong, () -> b.x.occurrence(wrong, 0));
                s.throwsIndex("level " + wrong, () -> b.x.session(wrong, 0));
                s.throwsIndex("saved state " + wrong, () -> b.x.save(wrong));
            }
            s.due("the last ones that there are", "3 0 2 0", () -> b.x.lengthOf(1) + " " + b.x.field(9, 0) + " " + b.x.occurrence(2, 0) + " "
                    + b.x.session(1, 0));
            s.throwsIndex("snippet 2", () -> b.x.lengthOf(2));
            s.throwsIndex("field 10", () -> b.x.field(10, 0));
            s.throwsIndex("occurrence 3", () -> b.x.occurrence(3, 0));
            s.throwsIndex("level 2", () -> b.x.session(2, 0));
            s.throwsIndex("saved state 2", () -> b.x.save(2));
            s.due("saved state 1", 2, () -> b.x.save(1));
        });
    }

    private static void undo(Edges e) {
        e.ofPromise(38);
        e.test("Undoes the latest act that can be undone: everything but the accounts, the library, the buffer, "
                + "the results of errorCode() and errorPosition() and the saved states is as it was ahead of it.", s -> {
            Still.Run run = b -> {
                b.load("snippet a{<${1:x${2:y}}${2/u}>}snippet lit{lit}");
                b.x.expand(1);
                b.x.expand(0);
                b.type("o");
                b.x.expand(0);
                b.x.go(2);
                b.type("in");
                b.put("snippet z{}");
            };
            Still.Question[] acts = {
                y -> y.expand(0), y -> y.expand(1), y -> y.type(2), SnippetExpander::erase, SnippetExpander::reset, SnippetExpander::next,
                SnippetExpander::previous, y -> y.go(1), y -> y.go(2), SnippetExpander::finish, SnippetExpander::drop, y -> y.setOrder(true),
                y -> y.setOrder(false),
            };
            for (int i = 0; i < acts.length; i++) {
                Still.Run after = Still.then(run, acts[i]);
                s.due("acts with act " + i, 7, () -> Still.made(after).x.size(5));
                Still.same(s, "after undo of act " + i, run, Still.then(after, SnippetExpander::undo));
                s.due("accounts after undo of act " + i, Still.accounts(after), () -> Still.accounts(Still.then(after, SnippetExpander::undo)));
                s.due("texts after undo of act " + i, Still.texts(after), () -> Still.texts(Still.then(after, SnippetExpander::undo)));
            }
        });
        e.test("everything but the accounts, the library, the buffer, the results of errorCode() and errorPosition() and the saved states", s -> {
            Bench b = Bench.open("snippet a{$1}");
            b.type("q");
            b.x.save(0);
            b.load("?");
            b.x.erase();
            b.x.go(9);
            b.put("abc");
            s.due("undo of erase()", "2 q", () -> b.x.undo() + " " + b.value(1));
            s.due("accounts", "3 1", () -> b.x.account(0) + " " + b.x.account(8));
            s.due("errors and buffer", "1 0 3", () -> b.x.errorCode() + " " + b.x.errorPosition() + " " + b.x.size(4));
            b.x.undo();
            s.due("undo of expand(0)", "0 0", () -> b.x.undo() + " " + b.x.size(1));
            s.due("the saved state, which was saved behind it", "1 q", () -> b.x.restore(0) + " " + b.value(1));
        });
        e.test("is as it was ahead of it.", s -> {
            Bench b = Bench.with("snippet a{$1$2}snippet lit{lit}snippet other{other}");
            b.x.expand(1);
            b.x.expand(0);
            b.type("ab");
            b.x.erase();
            b.type("xyz");
            s.due("bytes that were typed over", "axyz ab", () -> b.text() + " " + undone(b, 2).text());
            b.x.drop();
            undone(b, 3);
            b.x.expand(2);
            s.due("bytes of the document that were taken back", "litother 2 lit", () -> b.document() + " " + b.x.size(5) + " " + undone(b, 1).document());
            b.x.save(0);
            undone(b, 1);
            b.x.expand(2);
            s.due("a document that stands in the place of another one", "other 0 lit", () -> b.document() + " " + b.x.restore(0) + " " + b.document());
        });
        e.test("Returns the number of acts that can still be undone.", s -> {
            Bench b = new Bench();
            for (int i = 0; i < 20; i++) {
                b.x.setOrder(i % 2 == 0);
            }
            s.due("the greatest one", 7, b.x::undo);
            s.due("with an act behind it", 7, () -> {
                b.x.setOrder(true);
                return b.x.undo();
            });
            for (int left = 6; left >= 0; left--) {
                s.due("one less", left, b.x::undo);
            }
            s.due("size(5)", 0, () -> b.x.size(5));
        });
    }

    private static Bench undone(Bench b, int times) {
        for (int i = 0; i < times; i++) {
            b.x.undo();
        }
        return b;
    }

    private static void undoThrows(Edges e) {
        e.test("Throws IllegalStateException if there is no act to undo", s -> {
            s.throwsState("of a new object", () -> new SnippetExpander().undo());
            Still.whenThrown(s, "after a refused act", b -> b.x.drop(), STATE, SnippetExpander::undo);
            Still.whenThrown(s, "after load()", b -> {
                FieldEdges.inSession(b);
                b.x.find();
                b.load("snippet a{}");
            }, STATE, SnippetExpander::undo);
            Still.whenThrown(s, "after restore(1)", Still.then(FieldEdges::inSession, y -> y.restore(1)), STATE, SnippetExpander::undo);
            Still.Run eight = b -> {
                for (int i = 0; i < 9; i++) {
                    b.x.setOrder(i % 2 == 0);
                }
                for (int i = 0; i < 8; i++) {
                    b.x.undo();
                }
            };
            Still.whenThrown(s, "after 8 of 9", eight, STATE, SnippetExpander::undo);
            s.due("the act that can't be undone", 1, () -> Still.made(eight).x.size(3));
        });
    }

    private static void save(Edges e) {
        e.ofPromise(39);
        e.test("Saves everything that undo() brings back, but not which acts can be undone.", s -> {
            Still.Run run = FieldEdges::inSession;
            Still.Run later = b -> {
                run.on(b);
                b.x.save(0);
                b.x.setOrder(true);
                b.x.drop();
                b.x.finish();
                b.x.expand(1);
                b.x.restore(0);
            };
            Still.Run undone = b -> {
                run.on(b);
                b.x.save(0);
                b.x.restore(0);
            };
            Still.same(s, "after restore(0)", undone, later);
            s.due("acts that can be undone", "7 0", () -> Still.made(run).x.size(5) + " " + Still.made(later).x.size(5));
            s.due("save(0) is no act", "7 7", () -> {
                SnippetExpander y = Still.made(Still.then(run, z -> z.save(0))).x;
                return y.size(5) + " " + y.account(0);
            });
        });
        e.test("slot: 0 or 1; a state that is already saved there is replaced", s -> {
            Bench b = Bench.open("snippet a{$1}");
            b.x.save(0);
            b.type("one");
            b.x.save(1);
            b.type("two");
            b.x.save(0);
            s.due("0, which was replaced", "1 onetwo", () -> b.x.restore(0) + " " + b.value(1));
            s.due("1, which was not", "1 one", () -> b.x.restore(1) + " " + b.value(1));
            s.throwsIndex("save(2)", () -> b.x.save(2));
            s.throwsIndex("save(-1)", () -> b.x.save(-1));
        });
        e.test("Returns the depth.", s -> {
            Bench b = Bench.with("snippet a{$1}");
            s.due("none", 0, () -> b.x.save(0));
            for (int i = 0; i < 4; i++) {
                b.x.expand(0);
            }
            s.due("4", 4, () -> b.x.save(1));
            s.due("of a new object", 0, () -> new SnippetExpander().save(1));
        });
        e.test("Throws IndexOutOfBoundsException if slot is neither", s -> {
            for (int slot : new int[] {-1, 2, LEAST, MOST}) {
                Still.whenThrown(s, "save(" + slot + ")", FieldEdges::inSession, INDEX, y -> y.save(slot));
            }
        });
    }

    private static void restore(Edges e) {
        e.ofPromise(40);
        e.test("Brings back a saved state, which stays saved; no act can be undone then.", s -> {
            Bench b = Bench.open("snippet a{$1}");
            b.type("one");
            b.x.save(0);
            b.type("two");
            s.due("the state", "1 one 0", () -> b.x.restore(0) + " " + b.value(1) + " " + b.x.size(5));
            s.throwsState("no act to undo", b.x::undo);
            b.type("three");
            b.x.drop();
            s.due("again", "1 one 0", () -> b.x.restore(0) + " " + b.value(1) + " " + b.x.size(5));
            s.due("again at once", "1 one", () -> b.x.restore(0) + " " + b.value(1));
            b.type("!");
            s.due("an act behind it", "0 one", () -> b.x.undo() + " " + b.value(1));
            s.throwsState("none ahead of it", b.x::undo);
        });
        e.test("Returns the depth then.", s -> {
            Bench b = Bench.with("snippet a{$1}");
            b.x.save(0);
            for (int i = 0; i < 4; i++) {
                b.x.expand(0);
            }
            b.x.save(1);
            s.due("none", "0 0", () -> b.x.restore(0) + " " + b.x.size(1));
            s.due("4", "4 4", () -> b.x.restore(1) + " " + b.x.size(1));
        });
    }

    private static void restoreThrows(Edges e) {
        e.test("Throws IndexOutOfBoundsException if slot is neither", s -> {
            for (int slot : new int[] {-1, 2, LEAST, MOST}) {
                Still.whenThrown(s, "restore(" + slot + ")", FieldEdges::inSession, INDEX, y -> y.restore(slot));
                s.throwsIndex("restore(" + slot + ") of a new object", () -> new SnippetExpander().restore(slot));
            }
        });
        e.test("Throws IllegalStateException if nothing is saved there", s -> {
            Still.whenThrown(s, "restore(0)", FieldEdges::inSession, STATE, y -> y.restore(0));
            s.due("restore(1)", 2, () -> Still.made(FieldEdges::inSession).x.restore(1));
            s.throwsState("restore(1) of a new object", () -> new SnippetExpander().restore(1));
            Still.Run loaded = b -> {
                FieldEdges.inSession(b);
                b.x.find();
                b.load("snippet a{}");
            };
            Still.whenThrown(s, "restore(1) after load()", loaded, STATE, y -> y.restore(1));
            s.due("restore(1) after a load() with an error", 2, () -> Still.made(b -> {
                FieldEdges.inSession(b);
                b.x.find();
                b.load("x");
            }).x.restore(1));
        });
    }
}
