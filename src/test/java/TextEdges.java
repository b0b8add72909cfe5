/** Boundary cases of the whole, of promises 1 to 6 and of section 5: a new object, the buffer, library texts. */
final class TextEdges {
    private static final int NONE = SnippetExpander.NONE;
    private static final String LETTERS = "abcdefghijklmnopqrstuvwxyz";
    private static final String DIGITS = "0123456789";

    static void addTo(Edges e) {
        whole(e);
        newObject(e);
        append(e);
        load(e);
        errors(e);
        find(e);
        repetitions(e);
        bytesOfBodies(e);
        bytesOutside(e);
        orders(e);
        positions(e);
        codes(e);
        codesInOrder(e);
    }

    /** A text of so many snippets without any occurrence. */
    static String snippets(int count) {
        StringBuilder text = new StringBuilder();
        for (int i = 0; i < count; i++) {
            text.append("snippet ").append((char) ('a' + i)).append("{}");
        }
        return text.toString();
    }

    /** What the load of this text by a new object tells: the number of snippets, or "code@position". */
    private static void loads(Suite s, String text, Object due) {
        s.due("load of " + text, due, () -> new Bench().loaded(text));
    }

    /** The same of each byte from 1 to 255 between two texts: those that are taken, and all others as wrong where they stand. */
    private static void takes(Suite s, String ahead, String taken, String behind, String otherwise) {
        for (char told = 1; told <= 255; told++) {
            if (otherwise.indexOf(told) < 0) {
                String due = taken.indexOf(told) >= 0 ? "1" : "1@" + ahead.length();
                loads(s, ahead + told + behind, due);
            }
        }
    }

    private static void whole(Edges e) {
        e.ofPart("What it is");
        e.test("An object is used for at most 512 calls after it has been made", s -> {
            SnippetExpander x = new SnippetExpander();
            for (int call = 1; call < 512; call++) {
                x.setOrder(call % 2 == 1);
            }
            s.due("the 512th call", 511, () -> x.account(0));
            SnippetExpander y = new SnippetExpander();
            for (int call = 1; call < 512; call++) {
                y.next();
            }
            s.due("the 512th call", 511, () -> y.account(1));
        });
        e.ofPart("Terms");
        e.test("The constants: NONE = -1: There is none.", s -> s.due("NONE", -1, () -> SnippetExpander.NONE));
    }

    private static void newObject(Edges e) {
        e.ofPromise(1);
        e.test("Creates an expander with an empty library", s -> {
            SnippetExpander x = new SnippetExpander();
            s.due("snippets", 0, () -> x.size(0));
            s.throwsIndex("snippet(0, 0)", () -> x.snippet(0, 0));
            s.throwsIndex("expand(0)", () -> x.expand(0));
            s.due("find()", NONE, x::find);
        });
        e.test("the order \"numbers\", no session, an empty document, an empty buffer and no saved states", s -> {
            SnippetExpander x = new SnippetExpander();
            s.due("the order", 0, () -> x.size(3));
            s.due("the depth", 0, () -> x.size(1));
            s.throwsIndex("session(0, 0)", () -> x.session(0, 0));
            s.due("bytes of the document", 0, () -> x.size(2));
            s.throwsIndex("document(0)", () -> x.document(0));
            s.due("bytes of the buffer", 0, () -> x.size(4));
            s.throwsElement("type(1)", () -> x.type(1));
            s.throwsState("restore(0)", () -> x.restore(0));
            s.throwsState("restore(1)", () -> x.restore(1));
            s.throwsState("undo()", x::undo);
        });
        e.test("Creates an expander", s -> {
            Bench used = Bench.open("order places;snippet a{$1}");
            used.x.save(0);
            used.x.go(2);
            used.put("x");
            SnippetExpander x = new SnippetExpander();
            s.due("sizes of another one", "0 0 0 0 0 0", () -> x.size(0) + " " + x.size(1) + " " + x.size(2) + " " + x.size(3)
                    + " " + x.size(4) + " " + x.size(5));
            s.due("its accounts", "0 0", () -> x.account(0) + " " + x.account(8));
            s.throwsState("its saved state", () -> x.restore(0));
            s.due("the first one", "1 1 0 1 1 1", () -> used.x.size(0) + " " + used.x.size(1) + " " + used.x.size(2) + " "
                    + used.x.size(3) + " " + used.x.size(4) + " " + used.x.size(5));
        });
    }

    private static void append(Edges e) {
        e.ofPromise(2);
        e.test("Appends up to 20 bytes to the buffer", s -> {
            SnippetExpander x = new SnippetExpander();
            s.due("none", 0, () -> x.append(0, 0, 0, 0, 0));
            s.due("one", 1, () -> x.append(0, 0, 0, 0, 1));
            s.due("20", 21, () -> x.append(-1, -1, -1, -1, -1));
            s.due("least words", 26, () -> x.append(Integer.MIN_VALUE, Integer.MIN_VALUE, Integer.MIN_VALUE, Integer.MIN_VALUE, Integer.MIN_VALUE));
            s.due("greatest words", 46, () -> x.append(Integer.MAX_VALUE, Integer.MAX_VALUE, Integer.MAX_VALUE, Integer.MAX_VALUE, Integer.MAX_VALUE));
        });
        e.test("the four bytes of each parameter, the most significant byte first", s -> {
            Bench b = Bench.open("snippet a{$1}");
            b.x.append(0x01020304, 0x7f808182, 0xfcfdfeff, 0x41424344, 0x61626364);
            b.x.type(20);
            s.due("the 20 bytes", "\u0001\u0002\u0003\u0004\u007f\u0080\u0081\u0082\u00fc\u00fd\u00fe\u00ffABCDabcd", b::text);
        });
        e.test("bytes that are 0 are left out", s -> {
            for (int place = 0; place < 20; place++) {
                int[] ones = new int[5];
                ones[place / 4] = 0x80 << 24 - 8 * (place % 4);
                SnippetExpander x = new SnippetExpander();
                s.due("a byte at place " + place + " alone", 1, () -> x.append(ones[0], ones[1], ones[2], ones[3], ones[4]));
                int[] all = {0x41414141, 0x41414141, 0x41414141, 0x41414141, 0x41414141};
                all[place / 4] &= ~(0xff << 24 - 8 * (place % 4));
                s.due("a byte at place " + place + " left out", 20, () -> x.append(all[0], all[1], all[2], all[3], all[4]));
            }
        });
        e.test("Returns the length of the buffer.", s -> {
            Bench b = new Bench();
            s.due("of an empty one", 0, () -> b.x.append(0, 0, 0, 0, 0));
            s.due("of a full one", 700, () -> b.put(" ".repeat(700)));
            s.due("of a full one still", 700, () -> b.x.append(0, 0, 0, 0, 0));
        });
        e.test("Throws IllegalStateException if it would be longer than 700 bytes", s -> {
            s.due("700 by 20 bytes", 700, () -> Still.made(b -> b.put("a".repeat(680))).put("b".repeat(20)));
            s.due("700 by a byte", 700, () -> Still.made(b -> b.put("a".repeat(699))).put("b"));
            Still.whenThrown(s, "701 by 20 bytes", b -> b.put("snippet a{}".repeat(61) + "xxxxxxxxxx"), "IllegalStateException",
                    x -> x.append(-1, -1, -1, -1, -1));
            Still.whenThrown(s, "701 by a byte", b -> b.put("a".repeat(700)), "IllegalStateException", x -> x.append(0, 0, 0, 0, 1));
            Still.whenThrown(s, "701 by the first byte", b -> b.put("a".repeat(700)), "IllegalStateException", x -> x.append(1 << 24, 0, 0, 0, 0));
            Still.whenThrown(s, "720", b -> b.put("a".repeat(700)), "IllegalStateException", x -> x.append(-1, -1, -1, -1, -1));
        });
    }

    private static void load(Edges e) {
        e.ofPromise(3);
        e.test("Reads the buffer as a library text.", s -> {
            loads(s, "", 0);
            loads(s, "snippet a{" + "x".repeat(689) + "}", 1);
            loads(s, "x" + " ".repeat(699), "1@0");
            loads(s, " ".repeat(699) + "x", "1@699");
            Bench again = new Bench();
            for (int literals : new int[] {3, 5, 0, 1, 2}) {
                again.load("snippet a{" + "$1".repeat(59) + "${2:" + "x".repeat(literals) + "}}");
                s.due("literals in the default of the 60th occurrence, loaded again", literals, () -> again.x.lengthOf(0));
            }
        });
        e.test("If it has no error, it replaces everything but the accounts: there is no session, the document is empty, "
                + "no act can be undone, and nothing is saved.", s -> {
            String[] texts = {
                "", "snippet b{x}", "order numbers;snippet b{$1$2$0}", "order places;snippet z{$0${5:${6/n}}$1$2$1$2}snippet lit{${9:${0:q}}}",
            };
            for (String text : texts) {
                Still.Run fresh = b -> b.load(text);
                Still.Run used = b -> {
                    busy(b);
                    b.load(text);
                };
                Still.same(s, "load of " + text, fresh, used);
                s.due("errors and buffer", Still.texts(fresh), () -> Still.texts(used));
                s.due("accounts", Still.accounts(TextEdges::busy), () -> Still.accounts(used));
                s.throwsState("undo()", () -> Still.made(used).x.undo());
            }
        });
        e.test("The buffer is empty afterwards, also if there is an error.", s -> {
            for (String text : new String[] {"", "snippet a{}", "x", " ".repeat(700), "x".repeat(700)}) {
                Bench b = new Bench();
                b.load(text);
                s.due("the buffer after load of " + text, 0, () -> b.x.size(4));
                s.due("an empty text then", 0, b.x::load);
            }
        });
        e.test("Returns the number of snippets; NONE if the text has an error (then nothing else changes but the results of "
                + "errorCode() and errorPosition()).", s -> {
            s.due("no snippet", 0, () -> new Bench().load("order places;"));
            s.due("a snippet", 1, () -> new Bench().load(snippets(1)));
            s.due("8 snippets", 8, () -> new Bench().load(snippets(8)));
            String[] wrong = {"x", snippets(9), "order numbers;snippet z{${1:${2:$3}}}snippet z{}", "snippet z{" + "$1".repeat(61) + "}"};
            for (String text : wrong) {
                Still.Run after = b -> {
                    busy(b);
                    b.load(text);
                };
                s.due("load of " + text, NONE, () -> Still.made(TextEdges::busy).load(text));
                Still.same(s, "load of " + text, TextEdges::busy, after);
                s.due("accounts after " + text, Still.accounts(TextEdges::busy), () -> Still.accounts(after));
            }
        });
    }

    /** A state in which each part has something that could get lost. */
    private static void busy(Bench b) {
        b.load("order places;snippet z{${0:${1:z}}${2/n}${3/n}${4:$5${6:y}}zzz}");
        b.load("order places;snippet y{${0:${1:y}}${2/n}${3/n}${4:$5${7:y}}yyy}");
        b.load("order places;snippet a{<${2:x$1}$3>}snippet b{lit}");
        b.x.save(0);
        b.x.expand(1);
        b.x.expand(0);
        b.type("abc");
        b.x.save(1);
        b.x.expand(0);
        b.x.go(1);
        b.type("d");
        b.x.go(9);
    }

    private static void errors(Edges e) {
        e.ofPromise(4);
        e.test("0 if its text had no error, or if there was no such call.", s -> {
            Bench b = new Bench();
            s.due("no such call", 0, b.x::errorCode);
            b.load("x");
            s.due("an error", 1, b.x::errorCode);
            b.x.find();
            s.due("after find()", 1, b.x::errorCode);
            b.load("");
            s.due("no error", 0, b.x::errorCode);
            b.load(snippets(9));
            s.due("the greatest code", 5, b.x::errorCode);
        });
        e.ofPromise(5);
        e.test("NONE if its text had no error, or if there was no such call.", s -> {
            Bench b = new Bench();
            s.due("no such call", NONE, b.x::errorPosition);
            b.load("x");
            s.due("the least position", 0, b.x::errorPosition);
            b.x.find();
            s.due("after find()", 0, b.x::errorPosition);
            b.load("");
            s.due("no error", NONE, b.x::errorPosition);
            b.load("snippet a{" + "x".repeat(690));
            s.due("the greatest position", 700, b.x::errorPosition);
        });
    }

    private static void find(Edges e) {
        String names = "snippet a{}snippet ab{}snippet abcdefgh{}snippet d{}snippet e{}snippet f{}snippet g{}snippet zzzzzzzz{}";
        e.ofPromise(6);
        e.test("Finds a snippet by its NAME, which is the whole buffer; the buffer is empty afterwards.", s -> {
            Bench b = Bench.with(names);
            String[] asked = {"a", "ab", "abc", "abcdefgh", "abcdefg", "abcdefghi", "", "a ", " a", "A", "zzzzzzzz", "a".repeat(700), "b"};
            int[] due = {0, 1, NONE, 2, NONE, NONE, NONE, NONE, NONE, NONE, 7, NONE, NONE};
            for (int i = 0; i < asked.length; i++) {
                String name = asked[i];
                s.due("find " + name, due[i], () -> b.find(name));
                s.due("the buffer after it", 0, () -> b.x.size(4));
            }
        });
        e.test("Returns its number; NONE if there is none such.", s -> {
            s.due("the first one", 0, () -> Bench.with(names).find("a"));
            s.due("the 8th one", 7, () -> Bench.with(names).find("zzzzzzzz"));
            s.due("in an empty library", NONE, () -> new Bench().find("a"));
            s.due("an empty name in an empty library", NONE, () -> new Bench().find(""));
            Bench b = Bench.with(names);
            b.load("snippet b{}");
            s.due("a name of the library before", NONE, () -> b.find("a"));
            b.load("snippet c{}snippet b{$x}");
            s.due("a name of a text with an error", NONE, () -> b.find("c"));
            s.due("the name of the library", 0, () -> b.find("b"));
        });
    }

    private static void repetitions(Edges e) {
        e.ofSection(5);
        e.test("It is collected in a buffer of at most 700 bytes.", s -> {
            Bench b = new Bench();
            s.due("a text of 700 bytes", 1, () -> b.load("snippet a{" + "x".repeat(687) + "$$}"));
            s.due("its literals", 688, () -> b.x.snippet(0, 5));
            b.put(" ".repeat(700));
            s.throwsState("a 701st byte", () -> b.x.append(0, 0, 0, 0, 32));
            s.due("the 700 bytes", 0, b.x::load);
        });
        e.test("Braces without quotes mean any number of repetitions (none, too).", s -> {
            loads(s, "", 0);
            loads(s, "order places;", 0);
            loads(s, "order places;order places;order numbers;", 0);
            loads(s, "snippet a{}", 1);
            loads(s, "snippet a{${1:}}", 1);
            loads(s, "snippet a{x}snippet b{xx}", 2);
            loads(s, "snippet a{$1$1${1:${2:}${2:}}}order places;snippet b{}", 2);
        });
        e.test("library = { \"snippet\" NAME \"{\" body \"}\" | \"order\" ( \"numbers\" | \"places\" ) \";\" }", s -> {
            loads(s, "a{}", "1@0");
            loads(s, "snippet {}", "1@8");
            loads(s, "snippet a}", "1@9");
            loads(s, "snippet a{", "1@10");
            loads(s, "snippet a{};", "1@11");
            loads(s, "order;", "1@5");
            loads(s, "order places", "1@12");
            loads(s, "order place;", "1@6");
            loads(s, "order numbers places;", "1@14");
            loads(s, "order places;;", "1@13");
            loads(s, "numbers;", "1@0");
            loads(s, "snippet snippet{}snippet order{}snippet numbers{}snippet places{}", 4);
        });
    }

    private static void bytesOfBodies(Edges e) {
        String printed = "";
        for (char told = 32; told <= 126; told++) {
            printed += told;
        }
        String literals = printed + "\n";
        e.test("literal = a byte from 32 to 126 other than \"$\" and \"}\", or a line feed (byte 10) | \"$$\" | \"$}\"", s -> {
            takes(s, "snippet a{", literals, "}", "$}");
            takes(s, "snippet a{${1:", literals, "}}", "$}");
            loads(s, "snippet a{}}", "1@11");
            loads(s, "snippet a{$}", "1@12");
            loads(s, "snippet a{$}}", 1);
            loads(s, "snippet a{$$}", 1);
        });
        e.test("occurrence = \"$\" digit | \"${\" digit \"}\" | \"${\" digit \"/\" change \"}\" | \"${\" digit \":\" body \"}\"", s -> {
            takes(s, "snippet a{$", DIGITS + "$}", "}", "{");
            loads(s, "snippet a{${}", "1@12");
            takes(s, "snippet a{${", DIGITS, "}}", "");
            takes(s, "snippet a{${1", "}", "}", "/:");
            loads(s, "snippet a{${1/}", "1@14");
            loads(s, "snippet a{${1:}", "1@15");
            takes(s, "snippet a{${1/u", "}", "}", "");
        });
        e.test("change = \"u\" | \"l\" | \"r\" | \"f\" | \"n\"", s -> {
            takes(s, "snippet a{${1/", "ulrfn", "}}", "");
            loads(s, "snippet a{${1/", "1@14");
        });
        e.test("Inside of a body each byte is a token, also a space; \"$$\" tells the byte \"$\", and \"$}\" the byte \"}\".", s -> {
            s.due("spaces and line feeds are told", "  \n \n", () -> Bench.open("snippet a{  \n$1 \n}").text());
            s.due("words and bytes, too", "snippet b{;order places;", () -> Bench.open("snippet a{snippet b{;$1order places;}").text());
            s.due("in a default, too", " \n;{ ", () -> Bench.open("snippet a{${1: \n;{ }}").text());
            s.due("$$ and $}", "$ } $} }$ $1", () -> Bench.open("snippet a{$$ $} $$$} $}$$ $$1$1}").text());
            s.due("in a default, too", "$}$}", () -> Bench.open("snippet a{${1:$$$}$$$}}}").text());
            loads(s, "snippet a{$ 1}", "1@11");
            loads(s, "snippet a{${ 1}}", "1@12");
            loads(s, "snippet a{${1 }}", "1@13");
            loads(s, "snippet a{${1/ u}}", "1@14");
            loads(s, "snippet a{${1/u }}", "1@15");
        });
    }

    private static void bytesOutside(Edges e) {
        String blanks = " \n";
        e.test("Outside of bodies the tokens are words (maximal runs of the letters a to z) and the bytes { } and ;", s -> {
            takes(s, "snippet ", LETTERS, "{}", blanks);
            takes(s, "snippet a", "{", "}", blanks + LETTERS);
            takes(s, "snippet a{}order places", ";", "", blanks + LETTERS);
            takes(s, "snippet a{}", blanks, "", "");
            String[] words = {"snippet", "order", "places", "numbers"};
            String[] ahead = {"", "", "order ", "order "};
            String[] behind = {" a{}", " places;", ";", ";"};
            for (int i = 0; i < words.length; i++) {
                for (int at = 0; at < words[i].length(); at++) {
                    // another letter makes another word, which is wrong from its first letter on
                    String changed = words[i].substring(0, at) + "z" + words[i].substring(at + 1);
                    loads(s, ahead[i] + changed + behind[i], "1@" + ahead[i].length());
                }
                loads(s, ahead[i] + words[i].substring(1) + behind[i], "1@" + ahead[i].length());
                loads(s, ahead[i] + words[i] + "s" + behind[i], "1@" + ahead[i].length());
            }
            loads(s, "snippeta{}", "1@0");
            loads(s, "orderplaces;", "1@0");
            loads(s, "snippet a{}order placesnumbers;", "1@17");
            loads(s, "snippet a{}snippet bz{}", 2);
        });
        e.test("spaces (byte 32) and line feeds may stand ahead of tokens, between them and behind the last one", s -> {
            loads(s, " ", 0);
            loads(s, "\n", 0);
            loads(s, " \nsnippet \n a\n \n{} \norder\n\nplaces  ; \n", 1);
            loads(s, "snippet\na{}snippet b{}order\nplaces;", 2);
            takes(s, "", "", "snippet a{}", blanks + LETTERS);
            loads(s, " snippet a{}", 1);
            loads(s, "\nsnippet a{}", 1);
            takes(s, "snippet", blanks, "a{}", LETTERS);
            takes(s, "snippet a", blanks, "{}", "{" + LETTERS);
            takes(s, "snippet a{}order", blanks, "places;", LETTERS);
            loads(s, "snippet a{}order\tplaces;", "1@16");
            loads(s, "snippet a{}\r\n", "1@11");
        });
        e.test("A NAME is a word of at most 8 letters.", s -> {
            loads(s, "snippet a{}", 1);
            loads(s, "snippet abcdefgh{}", 1);
            loads(s, "snippet abcdefghi{}", "1@8");
            loads(s, "snippet " + "z".repeat(600) + "{}", "1@8");
            loads(s, "snippet {}", "1@8");
            loads(s, "snippet a{}snippet abcdefgh{}snippet abcdefghi{}", "1@37");
        });
    }

    private static void orders(Edges e) {
        e.test("The order is \"numbers\" if none is told; it may be told several times, the last time counts.", s -> {
            String[] texts = {
                "", "snippet a{}", "order numbers;", "order places;", "order places;order numbers;", "order numbers;order places;",
                "order places;order places;", "order places;snippet a{}order numbers;snippet b{}order places;snippet c{order numbers;}",
            };
            int[] due = {0, 0, 0, 1, 0, 1, 1, 1};
            for (int i = 0; i < texts.length; i++) {
                Bench b = new Bench();
                b.load("order places;");
                b.load(texts[i]);
                s.due("the order of " + texts[i], due[i], () -> b.x.size(3));
            }
            Bench b = new Bench();
            b.load("order places;");
            b.load("order numbers;x");
            s.due("the order of a text with an error", 1, () -> b.x.size(3));
        });
    }

    private static void positions(Edges e) {
        e.test("The text is read from the first token on, up to the first token that is wrong.", s -> {
            loads(s, snippets(9) + "?", "5@88");
            loads(s, "snippet a{}snippet a{$x}?", "3@19");
            loads(s, "snippet a{${1:$1}$x}", "4@14");
            loads(s, "snippet a{$x${1:$1}}", "1@11");
            loads(s, "snippet a{${1:${2:${3:${4:${5:\t", "2@26");
            loads(s, "?snippet a{", "1@0");
        });
        e.test("The error position is the index of its first byte, or the length of the text if the text ends too early.", s -> {
            // where each beginning of the text is wrong; that of a word is a word of its own
            String text = "order places;snippet ab{$1${2/u}${3:y}$$}";
            int[] wrong = {
                NONE, 0, 0, 0, 0, 5, 6, 6, 6, 6, 6, 6, 12, NONE, 13, 13, 13, 13, 13, 13, 20, 21, 22, 23, 24, 25, 26, 27, 28, 29,
                30, 31, 32, 33, 34, 35, 36, 37, 38, 39, 40,
            };
            for (int length = 0; length < text.length(); length++) {
                String beginning = text.substring(0, length);
                String due = wrong[length] == NONE ? "0" : "1@" + wrong[length];
                loads(s, beginning, due);
                // the bytes of an earlier text may not be read on
                Bench later = new Bench();
                later.load(text);
                s.due("load of " + beginning + " behind the whole text", due, () -> later.loaded(beginning));
            }
            loads(s, text, "1");
            loads(s, "snippet ab? {}", "1@10");
            loads(s, "snippet a{}snippettt", "1@11");
            loads(s, "order placess;", "1@6");
        });
    }

    private static void codes(Edges e) {
        String full = "$1".repeat(60);
        e.test("1: the token is not allowed there, a byte belongs to no token, or the text ends too early.", s -> {
            loads(s, "{", "1@0");
            loads(s, "snippet a{}}", "1@11");
            loads(s, "\t", "1@0");
            loads(s, "snippet a{\t}", "1@10");
            loads(s, "snippet", "1@7");
            loads(s, "snippet a{", "1@10");
        });
        e.test("2: the \"$\" of an occurrence with a default that is in 4 other defaults (told at this \"$\").", s -> {
            loads(s, "snippet a{${1:${2:${3:${4:x}}}}}", 1);
            loads(s, "snippet a{${1:${2:${3:${4:$5${5}${5/u}}}}}}", 1);
            loads(s, "snippet a{${1:${2:${3:${4:${5:}}}}}}", "2@26");
            loads(s, "snippet a{${1:${2:${3:${4:x}${4:y}}}${2:z}}${1:${2:${3:${4:}}}}}", 1);
            loads(s, "snippet a{${1:${2:${3:${4:x}${4:${5:y}}}}}}", "2@32");
        });
        e.test("3: a NAME that another snippet has.", s -> {
            loads(s, "snippet a{}snippet b{}", 2);
            loads(s, "snippet a{}snippet aa{}", 2);
            loads(s, "snippet aa{}snippet a{}", 2);
            loads(s, "snippet a{}snippet a{}", "3@19");
            loads(s, snippets(7) + "snippet a{}", "3@85");
            loads(s, snippets(7) + "snippet g{}", "3@85");
            loads(s, "snippet abcdefgh{}snippet abcdefgh", "3@26");
        });
        e.test("4: the \"$\" of an occurrence by which some field would depend on itself.", s -> {
            loads(s, "snippet a{${1:$2}$1$2}", 1);
            loads(s, "snippet a{${1:}${1:$2}${1:}}", 1);
            loads(s, "snippet a{${1:$1}}", "4@14");
            loads(s, "snippet a{${0:$0}}", "4@14");
            loads(s, "snippet a{${9:${9/u}}}", "4@14");
            loads(s, "snippet a{${1:$2}${2:$3}${3:$4}${4:$5}${5:$6}${6:$7}${7:$8}${8:$9}${9:$0}}", 1);
            loads(s, "snippet a{${1:$2}${2:$3}${3:$4}${4:$5}${5:$6}${6:$7}${7:$8}${8:$9}${9:$0}${0:$1}}", "4@77");
            loads(s, "snippet a{${0:$1}${9:$0}${8:$9}${7:$8}${6:$7}${5:$6}${4:$5}${3:$4}${2:$3}${1:x$2}}", "4@78");
            loads(s, "snippet a{${1:$2}}snippet b{${2:$1}}", 2);
        });
        e.test("5: the word \"snippet\" of a 9th snippet; the \"$\" of a 61st occurrence of a snippet.", s -> {
            loads(s, snippets(8), 8);
            loads(s, snippets(8) + "order places;", 8);
            loads(s, snippets(9), "5@88");
            loads(s, snippets(8) + " \nsnippet", "5@90");
            loads(s, "snippet a{" + full + "}", 1);
            loads(s, "snippet a{" + full + "$1}", "5@130");
            loads(s, "snippet a{" + full + "x${1", "5@131");
            loads(s, "snippet a{" + full + "$$$}}", 1);
            loads(s, "snippet a{" + full + "}snippet b{" + full + "}snippet c{" + full + "$2", "5@392");
        });
    }

    private static void codesInOrder(Edges e) {
        String nearlyFull = "$7".repeat(59);
        e.test("The error code is the least one of these that applies to that token", s -> {
            loads(s, "snippet a{" + nearlyFull + "${1:$1}}", "4@132");
            loads(s, "snippet a{" + nearlyFull + "${1:$2}}", "5@132");
            loads(s, snippets(8) + "snippets", "1@88");
            loads(s, "snippet abcdefgh{}snippet abcdefghi{}", "1@26");
        });
        e.test("an error 1 of a byte of an occurrence up to its digit comes first", s -> {
            loads(s, "snippet a{" + nearlyFull + "$7$x", "1@131");
            loads(s, "snippet a{" + nearlyFull + "$7${x", "1@132");
            loads(s, "snippet a{" + nearlyFull + "$7$", "1@131");
            loads(s, "snippet a{" + nearlyFull + "$7${", "1@132");
            loads(s, "snippet a{${1:${x", "1@16");
        });
        e.test("then the codes 4 and 5 of its \"$\" are asked", s -> {
            loads(s, "snippet a{${1:${1", "4@14");
            loads(s, "snippet a{${1:${1x}}}", "4@14");
            loads(s, "snippet a{" + nearlyFull + "$7${1", "5@130");
            loads(s, "snippet a{" + nearlyFull + "$7${1/x}}", "5@130");
            loads(s, "snippet a{" + nearlyFull + "$7${1:\t", "5@130");
        });
        e.test("the code 2 of its \"$\" is asked when the \":\" behind the digit is read", s -> {
            loads(s, "snippet a{${1:${2:${3:${4:${5", "1@29");
            loads(s, "snippet a{${1:${2:${3:${4:${5;", "1@29");
            loads(s, "snippet a{${1:${2:${3:${4:${5:", "2@26");
            loads(s, "snippet a{${1:${2:${3:${4:${5:\t", "2@26");
            loads(s, "snippet a{${1:${2:${3:${4:${4:x}}}}}}", "4@26");
            loads(s, "snippet a{" + "$7".repeat(55) + "${1:${2:${3:${4:${5:x}}}}}}", "2@136");
            loads(s, "snippet a{" + "$7".repeat(56) + "${1:${2:${3:${4:${5:x}}}}}}", "5@138");
        });
        e.test("The error position of these is always the \"$\".", s -> {
            loads(s, "snippet a{${1:xy$1}}", "4@16");
            loads(s, "snippet a{${1:xy${1}}}", "4@16");
            loads(s, "snippet a{" + nearlyFull + "$7${7}}", "5@130");
            loads(s, "snippet a{${1:${2:${3:${4:xy${5:}}}}}}", "2@28");
        });
    }
}
