/** Boundary cases of section 1, and of promises 7 to 11 and 27: snippets, the library, the document. */
final class LibraryEdges {
    private static final int NONE = SnippetExpander.NONE;
    private static final int LEAST = Integer.MIN_VALUE;
    private static final int MOST = Integer.MAX_VALUE;
    static void addTo(Edges e) {
        numbersOfSnippets(e);
        changes(e);
        lengthsOfChanges(e);
        dependences(e);
        size(e);
        snippet(e);
        letter(e);
        depends(e);
        document(e);
        lengthOf(e);
    }

    private static String of(String library, String typed) {
        Bench b = Bench.open(library);
        if (!typed.isEmpty()) {
            b.type(typed);
        }
        return b.text();
    }

    private static void numbersOfSnippets(Edges e) {
        e.ofSection(1);
        e.test("The library has at most 8 snippets, numbered from 0", s -> {
            Bench b = Bench.with(TextEdges.snippets(8));
            s.due("the first one", (int) 'a', () -> b.x.letter(0, 0));
            s.due("the last one", (int) 'h', () -> b.x.letter(7, 0));
            s.throwsIndex("one behind it", () -> b.x.letter(8, 0));
            s.due("9 snippets", NONE, () -> b.load(TextEdges.snippets(9)));
            s.due("the snippets then", 8, () -> b.x.size(0));
        });
        e.test("An occurrence is one of a field (0 to 9).", s -> {
            s.due("0 and 9", 1 | 1 << 9, () -> Bench.with("snippet a{$0$9}").x.snippet(0, 2));
            s.due("0 and 9 in braces", 1 | 1 << 9, () -> Bench.with("snippet a{${0}${9}}").x.snippet(0, 2));
            s.due("the byte ahead of 0", "1@11", () -> new Bench().loaded("snippet a{$/}"));
            s.due("the byte behind 9", "1@11", () -> new Bench().loaded("snippet a{$:}"));
            s.due("the byte ahead of 0 in braces", "1@12", () -> new Bench().loaded("snippet a{${/}}"));
            s.due("the byte behind 9 in braces", "1@12", () -> new Bench().loaded("snippet a{${:}}"));
            s.due("field 10 is field 1 and a literal", "1 1", () -> {
                SnippetExpander x = Bench.with("snippet a{$10}").x;
                return x.snippet(0, 1) + " " + x.snippet(0, 5);
            });
        });
        e.test("It may have a default, which is a body again, or a change (but not both).", s -> {
            s.due("an empty default", "1 0", () -> {
                SnippetExpander x = Bench.open("snippet a{${1:}}").x;
                return x.occurrence(0, 2) + " " + x.occurrence(0, 1);
            });
            s.due("a change", "0 1", () -> {
                SnippetExpander x = Bench.open("snippet a{${1/u}}").x;
                return x.occurrence(0, 2) + " " + x.occurrence(0, 1);
            });
            s.due("neither", "0 0", () -> {
                SnippetExpander x = Bench.open("snippet a{${1}}").x;
                return x.occurrence(0, 2) + " " + x.occurrence(0, 1);
            });
            s.due("a change and a default", "1@15", () -> new Bench().loaded("snippet a{${1/u:x}}"));
            s.due("a default that looks like both", "x/u", () -> Bench.open("snippet a{${1:x/u}}").text());
        });
        e.test("The occurrences of a snippet are numbered from 0, in the order in which they begin in its text; "
                + "an occurrence begins ahead of what is in its default.", s -> {
            SnippetExpander x = Bench.open("snippet a{${1:${2:${3:}$4}$5}$6}").x;
            for (int i = 0; i < 6; i++) {
                int occurrence = i;
                s.due("the field of occurrence " + i, i + 1, () -> x.occurrence(occurrence, 0));
            }
            s.throwsIndex("one more", () -> x.occurrence(6, 0));
        });
        e.test("Occurrences that stand in a default are in it, and in the defaults in which this one stands.", s -> {
            s.due("in none", 0, () -> Bench.with("snippet a{${1:x}}").x.snippet(0, 3));
            s.due("in one", 1, () -> Bench.with("snippet a{${1:$2}}").x.snippet(0, 3));
            s.due("in 4", 4, () -> Bench.with("snippet a{${1:${2:${3:${4:$5}}}}}").x.snippet(0, 3));
            s.due("what the outermost one depends on", 60, () -> Bench.with("snippet a{${1:${2:${3:${4:$5}}}}}").x.depends(0, 1));
        });
    }

    private static void changes(Edges e) {
        e.test("The changes are 1 upper (letters a to z become A to Z)", s -> {
            s.due("the letters and the bytes beside them", "`AZ{@AZ[", () -> of("snippet a{${1/u}}", "`az{@AZ["));
            s.due("an empty text", "", () -> of("snippet a{${1/u}}", ""));
            s.due("high bytes", "\u00e1\u00fa", () -> of("snippet a{${1/u}}", "\u00e1\u00fa"));
        });
        e.test("2 lower (the other way round)", s -> {
            s.due("the letters and the bytes beside them", "@az[`az{", () -> of("snippet a{${1/l}}", "@AZ[`az{"));
            s.due("an empty text", "", () -> of("snippet a{${1/l}}", ""));
            s.due("high bytes", "\u00c1\u00da", () -> of("snippet a{${1/l}}", "\u00c1\u00da"));
        });
        e.test("3 reversed (the bytes in the opposite order)", s -> {
            s.due("an empty text", "", () -> of("snippet a{${1/r}}", ""));
            s.due("a byte", "a", () -> of("snippet a{${1/r}}", "a"));
            s.due("two bytes", "ba", () -> of("snippet a{${1/r}}", "ab"));
            s.due("three bytes", "cba", () -> of("snippet a{${1/r}}", "abc"));
            s.due("200 bytes", "z" + "y".repeat(198) + "x", () -> of("snippet a{${1:x" + "y".repeat(198) + "z}${1/r}}", "").substring(200));
        });
        e.test("4 first (the first byte alone; nothing of an empty text)", s -> {
            s.due("of an empty text", "", () -> of("snippet a{${1/f}}", ""));
            s.due("of a byte", "a", () -> of("snippet a{${1/f}}", "a"));
            s.due("of two bytes", "a", () -> of("snippet a{${1/f}}", "ab"));
            s.due("of a text typed to be empty", "", () -> {
                Bench b = Bench.open("snippet a{${1/f}${1:x}}");
                b.x.erase();
                return b.text();
            });
        });
        e.test("0 is no change", s -> {
            s.due("no change", "0 aZ{", () -> {
                Bench b = Bench.open("snippet a{$1}");
                b.type("aZ{");
                return b.x.occurrence(0, 1) + " " + b.text();
            });
            s.due("no change of an empty text", "0 ", () -> Bench.open("snippet a{$1}").x.occurrence(0, 1) + " " + of("snippet a{$1}", ""));
        });
    }

    private static void lengthsOfChanges(Edges e) {
        e.test("5 number (how many bytes there are, as a decimal number without leading zeros)", s -> {
            int[] lengths = {0, 1, 9, 10, 11, 99, 100, 101, 397};
            for (int length : lengths) {
                Bench b = Bench.open("snippet a{${1:" + "x".repeat(length) + "}${1/n}}");
                s.due("number of " + length, String.valueOf(length), () -> b.text().substring(length));
                s.due("its bytes", String.valueOf(length).length(), () -> b.x.occurrence(1, 6));
            }
            s.due("of an empty text without default", "0", () -> of("snippet a{${1/n}}", ""));
            s.due("beyond 400 bytes", -3, () -> Bench.with("snippet a{${1:" + "x".repeat(398) + "}${1/n}}").x.expand(0));
        });
    }

    private static void dependences(Edges e) {
        e.test("No field occurs in a default of its own, neither directly nor by way of other ones", s -> {
            s.due("beside its own default", "1", () -> new Bench().loaded("snippet a{$1${1:x}$1}"));
            s.due("directly", "4@14", () -> new Bench().loaded("snippet a{${1:$1}}"));
            s.due("in a default in it", "4@18", () -> new Bench().loaded("snippet a{${1:${2:$1}}}"));
            s.due("in 4 defaults", "4@26", () -> new Bench().loaded("snippet a{${1:${2:${3:${4:$1}}}}}"));
            s.due("by way of another one", "4@21", () -> new Bench().loaded("snippet a{${1:$2}${2:$1}}"));
            s.due("by way of an earlier one", "4@27", () -> new Bench().loaded("snippet a{${2:$3}${1:$2${3:$1}}}"));
        });
        e.test("no field depends on itself", s -> {
            Bench b = Bench.with("snippet a{${1:$2}${2:$3}${3:$4}${4:$5}${5:$6}${6:$7}${7:$8}${8:$9}${9:$0}}");
            int[] due = {0, 1021, 1017, 1009, 993, 961, 897, 769, 513, 1};
            for (int f = 0; f < 10; f++) {
                int field = f;
                s.due("field " + f + " depends on", due[f], () -> b.x.depends(0, field));
            }
        });
    }

    private static void size(Edges e) {
        e.ofPromise(7);
        e.test("what: 0 snippets, 1 the depth, 2 bytes of the document, 3 the order (0 numbers, 1 places), 4 bytes of the buffer, "
                + "5 acts that can be undone", s -> {
            Bench b = new Bench();
            for (int what = 0; what <= 5; what++) {
                int asked = what;
                s.due("least size(" + what + ")", 0, () -> b.x.size(asked));
            }
            b.load("order places;snippet a{" + "x".repeat(300) + "}snippet b{}snippet c{}snippet d{}snippet e{}snippet f{}snippet g{}snippet h{$1}");
            b.x.expand(0);
            b.x.expand(0);
            for (int i = 0; i < 4; i++) {
                b.x.expand(7);
            }
            b.x.go(1);
            b.x.go(1);
            b.put("x".repeat(700));
            int[] due = {8, 4, 600, 1, 700, 8};
            for (int what = 0; what <= 5; what++) {
                int asked = what;
                s.due("greatest size(" + what + ")", due[what], () -> b.x.size(asked));
            }
            b.x.go(1);
            s.due("a 9th act", 8, () -> b.x.size(5));
        });
        e.test("Throws IllegalArgumentException if what is out of range", s -> {
            for (int what : new int[] {-1, 6, LEAST, MOST}) {
                Still.whenThrown(s, "size(" + what + ")", LibraryEdges::some, "IllegalArgumentException", x -> x.size(what));
            }
            s.due("size(0)", 3, () -> Still.made(LibraryEdges::some).x.size(0));
            s.due("size(5)", 3, () -> Still.made(LibraryEdges::some).x.size(5));
        });
    }

    /** 3 snippets, a document, a session, a buffer. */
    static void some(Bench b) {
        b.load("snippet az{$1${2:x}}snippet abcdefgh{}snippet c{lit}");
        b.x.expand(2);
        b.x.expand(0);
        b.x.next();
        b.put("snippet z{}");
    }

    private static void snippet(Edges e) {
        String sixty = "snippet a{}snippet abcdefgh{" + "${1:}".repeat(45) + "$2$3$4$5$6$7$8$9$0$2${9:${8:${7:${6:$5}}}}}";
        e.ofPromise(8);
        e.test("what: 0 letters of its NAME, 1 occurrences, 2 the fields that occur, as a set, 3 in how many defaults an occurrence is, "
                + "at most (0 without occurrences), 4 occurrences with a default, 5 literal bytes (of defaults, too)", s -> {
            SnippetExpander x = Bench.with(sixty).x;
            int[] least = {1, 0, 0, 0, 0, 0};
            int[] most = {8, 60, 1023, 4, 49, 0};
            for (int k = 0; k <= 5; k++) {
                int what = k;
                s.due("least snippet(0, " + k + ")", least[k], () -> x.snippet(0, what));
                s.due("greatest snippet(1, " + k + ")", most[k], () -> x.snippet(1, what));
            }
            s.due("60 defaults", 60, () -> Bench.with("snippet a{" + "${1:}".repeat(60) + "}").x.snippet(0, 4));
            s.due("689 literals", 689, () -> Bench.with("snippet a{" + "x".repeat(689) + "}").x.snippet(0, 5));
            s.due("literals of defaults alone", 4, () -> Bench.with("snippet a{${1:a${2:$$$}${3:b}}}}").x.snippet(0, 5));
            s.due("an occurrence in no default", 0, () -> Bench.with("snippet a{${1:x}}").x.snippet(0, 3));
        });
        e.test("Throws IndexOutOfBoundsException if there is no such snippet", s -> {
            for (int snippet : new int[] {-1, 3, LEAST, MOST}) {
                Still.whenThrown(s, "snippet(" + snippet + ", 0)", LibraryEdges::some, "IndexOutOfBoundsException", x -> x.snippet(snippet, 0));
                s.throwsIndex("with a wrong what", () -> Still.made(LibraryEdges::some).x.snippet(snippet, 6));
            }
            s.due("snippet(2, 0)", 1, () -> Still.made(LibraryEdges::some).x.snippet(2, 0));
            s.throwsIndex("in an empty library", () -> new Bench().x.snippet(0, 0));
        });
        e.test("Throws IllegalArgumentException if what is out of range", s -> {
            for (int what : new int[] {-1, 6, LEAST, MOST}) {
                Still.whenThrown(s, "snippet(0, " + what + ")", LibraryEdges::some, "IllegalArgumentException", x -> x.snippet(0, what));
            }
            s.due("snippet(2, 5)", 3, () -> Still.made(LibraryEdges::some).x.snippet(2, 5));
        });
    }

    private static void letter(Edges e) {
        e.ofPromise(9);
        e.test("Returns this letter of its NAME as a byte; NONE if there is none such.", s -> {
            SnippetExpander x = Still.made(LibraryEdges::some).x;
            int[] indexes = {0, 7, 8, -1, LEAST, MOST};
            int[] due = {'a', 'h', NONE, NONE, NONE, NONE};
            for (int i = 0; i < indexes.length; i++) {
                int index = indexes[i];
                s.due("letter(1, " + index + ")", due[i], () -> x.letter(1, index));
            }
            s.due("the last one of two", (int) 'z', () -> x.letter(0, 1));
            s.due("none behind it", NONE, () -> x.letter(0, 2));
            s.due("none behind one", NONE, () -> x.letter(2, 1));
        });
        e.test("Throws IndexOutOfBoundsException if there is no such snippet", s -> {
            for (int snippet : new int[] {-1, 3, LEAST, MOST}) {
                Still.whenThrown(s, "letter(" + snippet + ", 0)", LibraryEdges::some, "IndexOutOfBoundsException", x -> x.letter(snippet, 0));
                s.throwsIndex("letter(" + snippet + ", -1)", () -> Still.made(LibraryEdges::some).x.letter(snippet, -1));
            }
            s.due("letter(2, 0)", (int) 'c', () -> Still.made(LibraryEdges::some).x.letter(2, 0));
            s.throwsIndex("in an empty library", () -> new Bench().x.letter(0, 0));
        });
    }

    private static void depends(Edges e) {
        e.ofPromise(10);
        e.test("Returns the fields on which it depends in this snippet, as a set (section 1).", s -> {
            SnippetExpander x = Bench.with("snippet a{${0:$1$2$3$4$5$6$7$8$9}}snippet b{${9:$0}$8}").x;
            s.due("all but itself", 1022, () -> x.depends(0, 0));
            s.due("none", 0, () -> x.depends(0, 9));
            s.due("in the other snippet", "0 1", () -> x.depends(1, 0) + " " + x.depends(1, 9));
            s.due("of a field that does not occur", 0, () -> x.depends(1, 5));
            s.due("of a field without default", 0, () -> x.depends(1, 8));
        });
        e.test("Throws IndexOutOfBoundsException if there is no such snippet or field", s -> {
            for (int wrong : new int[] {-1, LEAST, MOST}) {
                Still.whenThrown(s, "depends(" + wrong + ", 0)", LibraryEdges::some, "IndexOutOfBoundsException", x -> x.depends(wrong, 0));
                Still.whenThrown(s, "depends(0, " + wrong + ")", LibraryEdges::some, "IndexOutOfBoundsException", x -> x.depends(0, wrong));
            }
            Still.whenThrown(s, "depends(3, 0)", LibraryEdges::some, "IndexOutOfBoundsException", x -> x.depends(3, 0));
            Still.whenThrown(s, "depends(0, 10)", LibraryEdges::some, "IndexOutOfBoundsException", x -> x.depends(0, 10));
            s.due("depends(2, 9)", 0, () -> Still.made(LibraryEdges::some).x.depends(2, 9));
            s.throwsIndex("in an empty library", () -> new Bench().x.depends(0, 0));
        });
    }

    private static void document(Edges e) {
        e.ofPromise(11);
        e.test("Returns this byte of the document.", s -> {
            Bench b = Bench.with("snippet a{$1}snippet b{" + "x".repeat(398) + "}snippet c{" + "x".repeat(199) + "}");
            for (String told : new String[] {"\u0001", "\u00ff", "\u0080"}) {
                b.x.expand(0);
                b.type(told);
                b.x.finish();
            }
            b.x.expand(1);
            b.x.expand(2);
            s.due("the first ones", "1 255 128 120", () -> b.x.document(0) + " " + b.x.document(1) + " " + b.x.document(2) + " " + b.x.document(3));
            s.due("the last one of 600", (int) 'x', () -> b.x.document(599));
            s.throwsIndex("one behind it", () -> b.x.document(600));
        });
        e.test("Throws IndexOutOfBoundsException if there is no such byte", s -> {
            for (int index : new int[] {-1, 3, LEAST, MOST}) {
                Still.whenThrown(s, "document(" + index + ")", LibraryEdges::some, "IndexOutOfBoundsException", x -> x.document(index));
            }
            s.due("the last one", (int) 't', () -> Still.made(LibraryEdges::some).x.document(2));
            s.throwsIndex("of an empty document", () -> new Bench().x.document(0));
            s.throwsIndex("that was taken back", () -> {
                SnippetExpander x = Bench.open("snippet a{q}").x;
                x.undo();
                return x.document(0);
            });
        });
    }

    private static void lengthOf(Edges e) {
        // 9 in the default of 5, which is told 11111 times
        String tower = "${1:$2$2$2$2$2$2$2$2$2$2}${2:$3$3$3$3$3$3$3$3$3$3}${3:$4$4$4$4$4$4$4$4$4$4}${4:$5$5$5$5$5$5$5$5$5$5}${5:xxxxxxxxx}";
        e.ofPromise(27);
        e.test("Returns how long its TEXT would be if it was expanded; 100000 if it would be 100000 or longer.", s -> {
            s.due("empty", 0, () -> Bench.with("snippet a{}").x.lengthOf(0));
            s.due("empty with fields", 0, () -> Bench.with("snippet a{$1${2:}}").x.lengthOf(0));
            s.due("by way of all 10 fields", "55 55", () ->
                    Bench.with("snippet a{${0:a$1}${1:b$2}${2:c$3}${3:d$4}${4:e$5}${5:f$6}${6:g$7}${7:h$8}${8:i$9}${9:j}}").x.lengthOf(0) + " "
                    + Bench.with("snippet a{${9:a$8}${8:b$7}${7:c$6}${6:d$5}${5:e$4}${4:f$3}${3:g$2}${2:h$1}${1:i$0}${0:j}}").x.lengthOf(0));
            s.due("400", 400, () -> Bench.with("snippet a{" + "x".repeat(400) + "}").x.lengthOf(0));
            s.due("401, which is refused", 401, () -> Bench.with("snippet a{" + "x".repeat(401) + "}").x.lengthOf(0));
            s.due("99999", 99999, () -> Bench.with("snippet a{" + tower + "}").x.lengthOf(0));
            s.due("100000", 100000, () -> Bench.with("snippet a{" + tower + "x}").x.lengthOf(0));
            s.due("100001", 100000, () -> Bench.with("snippet a{" + tower + "xx}").x.lengthOf(0));
            s.due("more than an int holds", 100000, () -> Bench.with("snippet a{" + steep() + "}").x.lengthOf(0));
        });
        e.test("Throws IndexOutOfBoundsException if there is no such snippet", s -> {
            for (int snippet : new int[] {-1, 3, LEAST, MOST}) {
                Still.whenThrown(s, "lengthOf(" + snippet + ")", LibraryEdges::some, "IndexOutOfBoundsException", x -> x.lengthOf(snippet));
            }
            s.due("lengthOf(2)", 3, () -> Still.made(LibraryEdges::some).x.lengthOf(2));
            s.throwsIndex("in an empty library", () -> new Bench().x.lengthOf(0));
        });
    }

    /** 6 to the power of 5 times 5 to the power of 4 times 500 bytes. */
    static String steep() {
        StringBuilder body = new StringBuilder();
        for (int f = 0; f < 9; f++) {
            body.append("${").append(f).append(':').append(("$" + (f + 1)).repeat(f < 5 ? 6 : 5)).append('}');
        }
        return body.append("${9:").append("x".repeat(500)).append('}').toString();
    }
}
