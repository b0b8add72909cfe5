/** Boundary cases of promises 19 to 26: what is asked of all fields together, and what would be. */
final class QuestionEdges {
    private static final int NONE = SnippetExpander.NONE;
    private static final int LEAST = Integer.MIN_VALUE;
    private static final int MOST = Integer.MAX_VALUE;

    static void addTo(Edges e) {
        why(e);
        yielded(e);
        mirrored(e);
        longest(e);
        untouched(e);
        meanLength(e);
        lengthIf(e);
        lengthIfThrows(e);
        wouldHide(e);
    }

    private static void throwsWithoutSession(Edges e, String call, Still.Question question) {
        e.test("Throws IllegalStateException if there is no session", s -> {
            Still.whenThrown(s, call, FieldEdges::withoutSession, "IllegalStateException", question);
            s.throwsState(call + " of a new object", () -> question.of(new SnippetExpander()));
        });
    }

    private static void throwsForField(Edges e, String call, java.util.function.IntFunction<Still.Question> questions) {
        e.test("Throws IndexOutOfBoundsException if there is no such field", s -> {
            for (int field : new int[] {-1, 10, LEAST, MOST}) {
                Still.Question question = questions.apply(field);
                Still.whenThrown(s, call + " of " + field, FieldEdges::inSession, "IndexOutOfBoundsException", question);
                s.throwsIndex(call + " of " + field + " without session", () -> question.of(Still.made(FieldEdges::withoutSession).x));
            }
        });
    }

    private static String whys(Bench b) {
        StringBuilder told = new StringBuilder();
        for (int field = 0; field < 10; field++) {
            told.append(b.x.why(field));
        }
        return told.toString();
    }

    private static void why(Edges e) {
        e.ofPromise(19);
        e.test("Returns 0 it is live; 1 it does not occur in the snippet", s -> {
            s.due("0 and 9 are live", "0111111110", () -> whys(Bench.open("snippet a{$0$9}")));
            s.due("live by one of two occurrences", "1001111111", () -> whys(Bench.open("snippet a{${1:}${1:$2}$2}")));
            s.due("live though the default of another occurrence has gone", 0, () -> {
                Bench b = Bench.open("snippet a{${1:$2}$2}");
                b.type("t");
                return b.x.why(2);
            });
        });
        e.test("2 the default in which one of its occurrences is, innermost, belongs to an occurrence that is shown and whose field is typed", s -> {
            Bench b = Bench.open("snippet a{${1:$2${3:$4}}}");
            b.type("t");
            s.due("1 is typed", "1022411111", () -> whys(b));
            Bench empty = Bench.open("snippet a{${1:$2}}");
            empty.x.erase();
            s.due("the value is empty, but not typed", 0, () -> empty.x.why(2));
            empty.type("x");
            empty.x.erase();
            s.due("typed with an empty text", 2, () -> empty.x.why(2));
        });
        e.test("3 that default belongs to an occurrence that is shown and whose field is not typed (it yields to an earlier one)", s -> {
            s.due("the last one of 60 occurrences", 3, () -> Bench.open("snippet a{" + "${1:}".repeat(58) + "${1:$2}}").x.why(2));
            s.due("the second default of 1", "1031111111", () -> whys(Bench.open("snippet a{${1:}${1:$2}}")));
            s.due("the third default of 1", "1033111111", () -> whys(Bench.open("snippet a{${1:}${1:$2}${1:$3}}")));
        });
        e.test("4 none of these (the first that applies).", s -> {
            s.due("in the default of one that is not shown", "1034111111", () -> whys(Bench.open("snippet a{${1:}${1:${2:$3}}}")));
            Bench both = Bench.open("snippet a{${1:}${1:$3}${2:$3}}");
            s.due("live", 0, () -> both.x.why(3));
            both.x.go(2);
            both.type("t");
            s.due("2 comes ahead of 3", 2, () -> both.x.why(3));
            Bench other = Bench.open("snippet a{${2:$3}${1:}${1:$3}}");
            other.x.go(2);
            other.type("t");
            s.due("2 comes ahead of 3 also if it stands ahead", 2, () -> other.x.why(3));
            s.due("3 comes ahead of 4", 3, () -> Bench.open("snippet a{${1:}${1:${2:$3}}${1:$3}}").x.why(3));
            s.due("3 comes ahead of 4 also if it stands ahead", 3, () -> Bench.open("snippet a{${1:}${1:$3}${1:${2:$3}}}").x.why(3));
        });
        throwsForField(e, "why", field -> x -> x.why(field));
        throwsWithoutSession(e, "why(1)", x -> x.why(1));
    }

    private static void yielded(Edges e) {
        e.ofPromise(20);
        e.test("Returns how many shown occurrences have a default that is not shown.", s -> {
            s.due("no default", 0, () -> Bench.open("snippet a{$1}").x.yielded());
            s.due("a default that is shown", 0, () -> Bench.open("snippet a{${1:}}").x.yielded());
            s.due("a second one", 1, () -> Bench.open("snippet a{${1:}${1:}}").x.yielded());
            s.due("59 of 60", 59, () -> Bench.open("snippet a{" + "${1:}".repeat(60) + "}").x.yielded());
            s.due("60 of 60", 60, () -> {
                Bench b = Bench.open("snippet a{" + "${1:}".repeat(60) + "}");
                b.type("t");
                return b.x.yielded();
            });
            s.due("an occurrence that is not shown", 1, () -> Bench.open("snippet a{${1:}${1:${2:}}}").x.yielded());
        });
        throwsWithoutSession(e, "yielded()", SnippetExpander::yielded);
    }

    private static void mirrored(Edges e) {
        e.ofPromise(21);
        e.test("Returns how many live fields have two shown occurrences or more.", s -> {
            s.due("one", 0, () -> Bench.open("snippet a{$1$2}").x.mirrored());
            s.due("two", 1, () -> Bench.open("snippet a{$1$1}").x.mirrored());
            s.due("three", 1, () -> Bench.open("snippet a{$1$1$1}").x.mirrored());
            s.due("all fields", 10, () -> Bench.open("snippet a{" + "$0$1$2$3$4$5$6$7$8$9".repeat(2) + "}").x.mirrored());
            s.due("of two of 2 one is not shown, but two of 1 are", 1, () -> Bench.open("snippet a{${1:}${1:$2}$2}").x.mirrored());
            s.due("of two of 2 neither is shown, but two of 1 are", 1, () -> Bench.open("snippet a{${1:}${1:$2$2}}").x.mirrored());
        });
        throwsWithoutSession(e, "mirrored()", SnippetExpander::mirrored);
    }

    private static void longest(Edges e) {
        e.ofPromise(22);
        e.test("Returns the live field with the longest value, the lowest one of several.", s -> {
            s.due("one", 9, () -> Bench.open("snippet a{$9}").x.longest());
            s.due("all empty", 0, () -> Bench.open("snippet a{$9$5$0}").x.longest());
            s.due("all empty without 0", 5, () -> Bench.open("snippet a{$9$5}").x.longest());
            s.due("longer by a byte", 9, () -> Bench.open("snippet a{${0:a}${9:bb}}").x.longest());
            s.due("as long", 0, () -> Bench.open("snippet a{${9:aa}${0:bb}}").x.longest());
            s.due("a longer one that is not live", 1, () -> {
                Bench b = Bench.open("snippet a{${1:$2}}");
                b.x.go(2);
                b.type("long");
                b.x.go(1);
                b.type("t");
                return b.x.longest();
            });
        });
        throwsWithoutSession(e, "longest()", SnippetExpander::longest);
    }

    private static void untouched(Edges e) {
        e.ofPromise(23);
        e.test("Returns the live fields that are not typed, divided by the live fields, both converted to float.", s -> {
            s.due("all of one", 1.0f, () -> Bench.open("snippet a{$0}").x.untouched());
            Bench b = Bench.open("snippet a{$1${2:$3}}");
            b.type("x");
            s.due("2 of 3", 2.0f / 3.0f, b.x::untouched);
            b.x.go(3);
            b.type("x");
            s.due("1 of 3", 1.0f / 3.0f, b.x::untouched);
            b.x.go(2);
            b.type("x");
            s.due("none of 2; one that is typed is not live", 0.0f, b.x::untouched);
            Bench ten = Bench.open("snippet a{$0$1$2$3$4$5$6$7$8$9}");
            ten.type("x");
            s.due("9 of 10", 9.0f / 10.0f, ten.x::untouched);
            Bench empty = Bench.open("snippet a{${1:x}}");
            empty.x.erase();
            s.due("typed with an empty text", 0.0f, empty.x::untouched);
        });
        throwsWithoutSession(e, "untouched()", SnippetExpander::untouched);
    }

    private static void meanLength(Edges e) {
        e.ofPromise(24);
        e.test("Returns the bytes of the values of all live fields, added up, divided by the number of these fields, both converted to double.", s -> {
            s.due("an empty one", 0.0, () -> Bench.open("snippet a{$1}").x.meanLength());
            s.due("400 of one", 400.0, () -> Bench.open("snippet a{${1:" + "x".repeat(400) + "}}").x.meanLength());
            s.due("5 of 0 and 9", 2.5, () -> Bench.open("snippet a{${0:xx}${9:yyy}}").x.meanLength());
            s.due("1 of 3", 1.0 / 3.0, () -> Bench.open("snippet a{${1:x}$2$3}").x.meanLength());
            s.due("800 of 2", 400.0, () -> Bench.open("snippet a{${1:${2:" + "x".repeat(400) + "}}}").x.meanLength());
            s.due("2 of 9", 2.0 / 9.0, () -> Bench.open("snippet a{${1:xx}$2$3$4$5$6$7$8$9}").x.meanLength());
            s.due("one that is typed is not live", 1.0, () -> {
                Bench b = Bench.open("snippet a{${1:$2}}");
                b.x.go(2);
                b.type("long");
                b.x.go(1);
                b.type("t");
                return b.x.meanLength();
            });
        });
        throwsWithoutSession(e, "meanLength()", SnippetExpander::meanLength);
    }

    private static void lengthIf(Edges e) {
        e.ofPromise(25);
        e.test("bytes: 1 to 20", s -> {
            Bench b = Bench.open("snippet a{$1}");
            s.due("1 and 20", "1 20", () -> b.x.lengthIf(1) + " " + b.x.lengthIf(20));
            s.throwsArgument("0", () -> b.x.lengthIf(0));
            s.throwsArgument("21", () -> b.x.lengthIf(21));
        });
        e.test("Returns how long the TEXT would be if so many letters x were typed now by type(); NONE if that would be refused.", s -> {
            Bench b = Bench.open("snippet a{${1:default}}");
            s.due("the default is gone", "1 20", () -> b.x.lengthIf(1) + " " + b.x.lengthIf(20));
            b.type("x".repeat(20));
            s.due("40 bytes in the field", 40, () -> b.x.lengthIf(20));
            b.type("x");
            s.due("41 bytes in the field", "40 -1", () -> b.x.lengthIf(19) + " " + b.x.lengthIf(20));
            b.type("x".repeat(19));
            s.due("a full field", NONE, () -> b.x.lengthIf(1));
            Bench wide = Bench.open("snippet a{" + "$1".repeat(20) + "}");
            wide.type("x".repeat(10));
            s.due("400 and 420 bytes of TEXT", "400 -1", () -> wide.x.lengthIf(10) + " " + wide.x.lengthIf(11));
            Bench one = Bench.open("snippet a{$1" + "x".repeat(399) + "}");
            s.due("400 and 401 bytes of TEXT", "400 -1", () -> one.x.lengthIf(1) + " " + one.x.lengthIf(2));
            Bench late = Bench.open("snippet a{${1:${2:}}${2:" + "x".repeat(399) + "}}");
            s.due("400 and 401 by a default that shows up", "400 -1", () -> late.x.lengthIf(1) + " " + late.x.lengthIf(2));
        });
        e.test("Returns how long the TEXT would be", s -> {
            Still.Run run = b -> {
                FieldEdges.inSession(b);
                b.type("snippet z{}");
                b.put("snippet y{}");
            };
            for (int bytes : new int[] {1, 20}) {
                Still.Run after = Still.then(run, x -> x.lengthIf(bytes));
                Still.same(s, "after lengthIf(" + bytes + ")", run, after);
                s.due("accounts after lengthIf(" + bytes + ")", Still.accounts(run), () -> Still.accounts(after));
                s.due("texts after lengthIf(" + bytes + ")", Still.texts(run), () -> Still.texts(after));
            }
            Still.Run full = b -> {
                b.load("snippet a{$1}");
                b.x.expand(0);
                b.type("x".repeat(20));
                b.type("x".repeat(20));
            };
            s.due("one that would be refused", NONE, () -> Still.made(full).x.lengthIf(1));
            s.due("no refusal is counted", Still.accounts(full), () -> Still.accounts(Still.then(full, x -> x.lengthIf(1))));
        });
    }

    private static void lengthIfThrows(Edges e) {
        e.test("Throws IllegalArgumentException if bytes is out of range", s -> {
            for (int bytes : new int[] {0, 21, -1, LEAST, MOST}) {
                Still.whenThrown(s, "lengthIf(" + bytes + ")", FieldEdges::inSession, "IllegalArgumentException", x -> x.lengthIf(bytes));
                Still.whenThrown(s, "lengthIf(" + bytes + ") without session", FieldEdges::withoutSession, "IllegalArgumentException",
                        x -> x.lengthIf(bytes));
            }
        });
        throwsWithoutSession(e, "lengthIf(1)", x -> x.lengthIf(1));
    }

    private static void wouldHide(Edges e) {
        e.ofPromise(26);
        e.test("Returns the live fields that would not be live any more if this field was typed with an empty text, as a set "
                + "(the field itself never belongs to it; 0 if it is typed already).", s -> {
            s.due("none", 0, () -> Bench.open("snippet a{$1$2}").x.wouldHide(1));
            s.due("all but itself", 1022, () -> Bench.open("snippet a{${0:$1$2$3$4$5$6$7$8$9}}").x.wouldHide(0));
            s.due("those that stay live by another occurrence", 4, () -> Bench.open("snippet a{${1:$2$3}$3}").x.wouldHide(1));
            s.due("those that are not live already", 0, () -> Bench.open("snippet a{${1:}${1:$2}}").x.wouldHide(1));
            s.due("of one that is not live", 0, () -> Bench.open("snippet a{${1:}${1:${2:$3}}}").x.wouldHide(2));
            s.due("of one that does not occur", 0, () -> Bench.open("snippet a{${1:$2}}").x.wouldHide(9));
            Bench b = Bench.open("snippet a{${1:$2}}");
            b.x.go(2);
            b.type("x");
            s.due("one that is typed gets hidden", 4, () -> b.x.wouldHide(1));
            b.x.go(1);
            b.type("x");
            s.due("typed already", 0, () -> b.x.wouldHide(1));
            s.due("not live and typed already", 0, () -> b.x.wouldHide(2));
        });
        e.test("Returns the live fields that would not be live any more", s -> {
            Still.Run after = Still.then(FieldEdges::inSession, x -> x.wouldHide(1));
            s.due("wouldHide(1)", 0, () -> Still.made(FieldEdges::inSession).x.wouldHide(1));
            Still.same(s, "after wouldHide(1)", FieldEdges::inSession, after);
            s.due("accounts after wouldHide(1)", Still.accounts(FieldEdges::inSession), () -> Still.accounts(after));
        });
        throwsForField(e, "wouldHide", field -> x -> x.wouldHide(field));
        throwsWithoutSession(e, "wouldHide(1)", x -> x.wouldHide(1));
    }
}
