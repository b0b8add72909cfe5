/** Promises 1 to 11 and 27, and section 5: texts, the library, the document. */
final class LibraryTests {
    private static final int NONE = SnippetExpander.NONE;
    private static final String HIGH = "\u0080";

    static void addTo(Suite suite) {
        suite.test("promise 1: a new object", LibraryTests::newObject);
        suite.test("promise 2: append", LibraryTests::append);
        suite.test("promise 2: the buffer is full", LibraryTests::fullBuffer);
        suite.test("promise 3: load replaces everything", LibraryTests::loadReplaces);
        suite.test("promise 3: load again and again", LibraryTests::loadAgain);
        suite.test("promise 3: a wrong text changes nothing", LibraryTests::wrongLoadKeeps);
        suite.test("promises 3 to 5: texts without error", LibraryTests::goodTexts);
        suite.test("promises 4, 5: error 1 outside of bodies", LibraryTests::wrongOutside);
        suite.test("promises 4, 5: error 1 inside of a body", LibraryTests::wrongInside);
        suite.test("promises 4, 5: error 2", LibraryTests::tooNested);
        suite.test("promises 4, 5: error 3", LibraryTests::sameName);
        suite.test("promises 4, 5: error 4", LibraryTests::dependsOnItself);
        suite.test("promises 4, 5: error 5", LibraryTests::tooMany);
        suite.test("promises 4, 5: which error comes first", LibraryTests::errorsInOrder);
        suite.test("promise 6: find", LibraryTests::find);
        suite.test("promise 7: size", LibraryTests::size);
        suite.test("promise 8: snippet", LibraryTests::snippet);
        suite.test("promise 9: letter", LibraryTests::letter);
        suite.test("promise 10: depends", LibraryTests::depends);
        suite.test("promise 11: document", LibraryTests::document);
        suite.test("promise 27: lengthOf", LibraryTests::lengthOf);
    }

    private static void newObject(Suite s) {
        SnippetExpander x = new SnippetExpander();
        for (int what = 0; what <= 5; what++) {
            int asked = what;
            s.due("size(" + what + ")", 0, () -> x.size(asked));
        }
        for (int what = 0; what <= 9; what++) {
            int asked = what;
            s.due("account(" + what + ")", 0, () -> x.account(asked));
        }
        s.due("errorCode()", 0, x::errorCode);
        s.due("errorPosition()", NONE, x::errorPosition);
        s.throwsIndex("snippet(0, 0)", () -> x.snippet(0, 0));
        s.throwsIndex("document(0)", () -> x.document(0));
        s.throwsIndex("session(0, 0)", () -> x.session(0, 0));
        s.throwsState("yielded()", x::yielded);
        s.throwsState("undo()", x::undo);
        s.throwsState("restore(0)", () -> x.restore(0));
        s.throwsState("restore(1)", () -> x.restore(1));
        s.due("NONE", -1, () -> SnippetExpander.NONE);
    }

    private static void append(Suite s) {
        Bench b = new Bench();
        SnippetExpander x = b.x;
        s.due("no bytes", 0, () -> x.append(0, 0, 0, 0, 0));
        s.due("the bytes 0 are left out", 3, () -> x.append(0x00610062, 0x63, 0, 0, 0));
        s.due("its order", 0, () -> {
            x.find();
            b.load("snippet abcde{}");
            x.append(0x61000062, 0x00630000, 0, 0x6400, 0x65);
            return x.find();
        });
        s.due("each parameter", 5, () -> x.append(0x61, 0x62, 0x63, 0x64, 0x65));
        s.due("each parameter in its place", 0, x::find);
        s.due("negative words have 4 bytes", 4, () -> x.append(-1, 0, 0, 0, 0));
        s.due("20 bytes", 24, () -> x.append(0x01010101, 0x01010101, 0x01010101, 0x01010101, 0x80808080));
        x.find();
        b.load("snippet a{$1}");
        x.expand(0);
        x.append(0xff800001, 0x7f, 0, 0, 0);
        s.due("type", 4, () -> x.type(4));
        s.due("a byte is from 1 to 255", "255 128 1 127",
                () -> x.text(0) + " " + x.text(1) + " " + x.text(2) + " " + x.text(3));
    }

    private static void fullBuffer(Suite s) {
        Bench b = new Bench();
        SnippetExpander x = b.x;
        b.put(" ".repeat(690));
        s.throwsState("11 bytes more", () -> x.append(0x20202020, 0x20202020, 0x20202000, 0, 0));
        s.due("nothing is appended", 690, () -> x.size(4));
        s.due("10 bytes more", 700, () -> x.append(0x20202020, 0x20202020, 0, 0x20200000, 0));
        s.throwsState("a byte more", () -> x.append(0, 0, 0, 0, 1));
        x.find();
        b.put(" ".repeat(697));
        s.throwsState("4 bytes by the first word", () -> x.append(0x20202020, 0, 0, 0, 0));
        s.throwsState("4 bytes by the second word", () -> x.append(0, 0x20202020, 0, 0, 0));
        s.throwsState("4 bytes by the third word", () -> x.append(0, 0, 0x20202020, 0, 0));
        s.throwsState("4 bytes by the fourth word", () -> x.append(0, 0, 0, 0x20202020, 0));
        s.throwsState("4 bytes by the fifth word", () -> x.append(0, 0, 0, 0, 0x20202020));
        s.throwsState("4 bytes by all words", () -> x.append(1, 1, 0, 1, 1));
        s.due("3 bytes more", 700, () -> x.append(0x200000, 0x20, 0, 0, 0x20000000));
        s.due("no byte more", 700, () -> x.append(0, 0, 0, 0, 0));
        s.due("load()", 0, x::load);
        s.due("the buffer is empty", 1, () -> x.append(0, 0, 0, 0, 1));
    }

    private static void loadReplaces(Suite s) {
        Bench b = Bench.with("order places;snippet a{$1}snippet bb{zz}");
        SnippetExpander x = b.x;
        x.expand(1);
        x.expand(0);
        x.reset();
        x.save(0);
        x.save(1);
        s.due("the act count", 2, () -> x.size(5));
        s.due("load()", 1, () -> b.load("snippet c{}"));
        s.due("sizes", "1 0 0 0 0 0", () -> sizes(x));
        s.due("accounts stay", "2 1", () -> x.account(0) + " " + x.account(6));
        s.throwsState("nothing is saved in 0", () -> x.restore(0));
        s.throwsState("nothing is saved in 1", () -> x.restore(1));
        s.throwsState("nothing to undo", x::undo);
        s.due("the old names are gone", NONE, () -> b.find("a"));
        s.due("the new one is there", 0, () -> b.find("c"));
        s.due("an empty text", 0, x::load);
        s.due("no snippets", "0 0 0 0 0 0", () -> sizes(x));
        s.due("third load()", 2, () -> b.load("snippet p{a}snippet q{$1}order places;"));
        s.due("its order", 1, () -> x.size(3));
        s.due("its expansion", 1, () -> b.expand("q"));
    }

    private static void loadAgain(Suite s) {
        Bench b = new Bench();
        String[] texts = {
            "snippet a{" + "$1".repeat(59) + "${2:abcd}}snippet b{${3:x${4:y}}}", "order places;snippet a{${1:${2:b}}$3}", "snippet b{ab}",
            "snippet a{$" + "x".repeat(5), "snippet a{" + "$1".repeat(58) + "${3:z${2:ab}}}snippet bb{${4:q${3:y}r}}",
        };
        String[] due = {"2 4 0 60", "1 1 0 3", "1 2 -1 0", "-1 2 -1 0", "2 3 0 60"};
        for (int round = 0; round < 4; round++) {
            for (int i = 0; i < texts.length; i++) {
                String text = texts[i];
                s.due("round " + round + ", load of " + text, due[i],
                        () -> b.load(text) + " " + b.x.lengthOf(0) + " " + b.find("a") + " " + b.x.snippet(0, 1));
            }
            s.due("what depends on what", "0 4 0 8", () -> b.x.depends(0, 1) + " " + b.x.depends(0, 3) + " "
                    + b.x.depends(1, 3) + " " + b.x.depends(1, 4));
        }
    }

    private static String sizes(SnippetExpander x) {
        return x.size(0) + " " + x.size(1) + " " + x.size(2) + " " + x.size(3) + " " + x.size(4) + " " + x.size(5);
    }

    private static void wrongLoadKeeps(Suite s) {
        Bench b = Bench.with("order places;snippet a{x$1}snippet b{zz}");
        SnippetExpander x = b.x;
        x.expand(1);
        x.expand(0);
        x.save(1);
        s.due("load()", NONE, () -> b.load("order numbers;snippet c{$1$2$3}snippet d{$x"));
        s.due("error", "1 42", () -> x.errorCode() + " " + x.errorPosition());
        s.due("sizes", "2 1 2 1 0 2", () -> sizes(x));
        s.due("the snippets", "1 1", () -> x.snippet(0, 1) + " " + x.snippet(1, 0));
        s.due("the session", "x", b::text);
        s.due("names", "0 1 -1", () -> b.find("a") + " " + b.find("b") + " " + b.find("c"));
        s.due("what is saved", 1, () -> x.restore(1));
        s.due("good load()", 1, () -> b.load("snippet c{}"));
        s.due("no error", "0 -1", () -> x.errorCode() + " " + x.errorPosition());
    }

    private static void goodTexts(Suite s) {
        Bench b = new Bench();
        String[] texts = {
            "", " \n ", "order numbers;", "order\nplaces\n;\n", "snippet a{}", " snippet  a \n{}  ",
            "snippet snippet{}snippet order{}snippet numbers{}", "snippet abcdefgh{}", "snippet a{ }snippet b{\n}",
            "snippet a{{~ $$ $} ;}", "snippet a{$0$9${0}${9}}", "snippet a{${1/u}${1/l}${1/r}${1/f}${1/n}}",
            "snippet a{${1:}}", "snippet a{${1:${2:${3:${4:$5}}}}}", "order places;snippet a{}order numbers;",
        };
        int[] counts = {0, 0, 0, 0, 1, 1, 3, 1, 2, 1, 1, 1, 1, 1, 1};
        for (int i = 0; i < texts.length; i++) {
            String text = texts[i];
            s.due("load of " + text, counts[i], () -> b.load(text));
            s.due("error after " + text, "0 -1", () -> b.x.errorCode() + " " + b.x.errorPosition());
        }
        s.due("the last order counts", 0, () -> b.x.size(3));
        b.load("order numbers;order places;");
        s.due("the last order counts", 1, () -> b.x.size(3));
        b.load("snippet places{order places;}");
        s.due("no order is told in a body", 0, () -> b.x.size(3));
        b.load("snippet a{{~ $$ $} ;\n}");
        b.x.expand(0);
        s.due("what the escapes tell", "{~ $ } ;\n", b::document);
    }

    private static void errors(Suite s, Bench b, String[][] rows) {
        for (String[] row : rows) {
            s.due("load of " + row[0], row[1], () -> b.loaded(row[0]));
            s.due("the buffer after " + row[0], 0, () -> b.x.size(4));
        }
    }

    private static void wrongOutside(Suite s) {
        errors(s, new Bench(), new String[][] {
            {"x", "1@0"}, {" \nx", "1@2"}, {"{", "1@0"}, {"}", "1@0"}, {";", "1@0"}, {"S", "1@0"}, {"1", "1@0"},
            {"\t", "1@0"}, {HIGH, "1@0"}, {"snippets a{}", "1@0"}, {"snippe a{}", "1@0"}, {"snippetT", "1@7"},
            {"orders places;", "1@0"}, {"numbers", "1@0"},
            {"snippet", "1@7"}, {"snippet ", "1@8"}, {"snippet {", "1@8"}, {"snippet;", "1@7"}, {"snippet A", "1@8"},
            {"snippet abcdefghi{}", "1@8"}, {"snippet abcdefgh", "1@16"}, {"snippet a ", "1@10"}, {"snippet a b{", "1@10"},
            {"snippet a}", "1@9"}, {"snippet a;", "1@9"}, {"snippet aB{}", "1@9"}, {"snippet a{}}", "1@11"},
            {"snippet a{};", "1@11"}, {"snippet a{}a", "1@11"}, {"snippet a{} \n?", "1@13"},
            {"order", "1@5"}, {"order ", "1@6"}, {"order;", "1@5"}, {"order number;", "1@6"}, {"order numberss;", "1@6"},
            {"order place;", "1@6"}, {"order snippet;", "1@6"}, {"order numbers", "1@13"}, {"order places ", "1@13"},
            {"order places places;", "1@13"}, {"order places;;", "1@13"}, {"order places{", "1@12"}, {"order places \t;", "1@13"},
        });
    }

    private static void wrongInside(Suite s) {
        errors(s, new Bench(), new String[][] {
            {"snippet a{", "1@10"}, {"snippet a{x", "1@11"}, {"snippet a{\t}", "1@10"}, {"snippet a{ \n\r}", "1@12"},
            {"snippet a{\u001f}", "1@10"}, {"snippet a{\u007f}", "1@10"}, {"snippet a{x" + HIGH + "}", "1@11"},
            {"snippet a{\u00ff}", "1@10"}, {"snippet a{\u0001}", "1@10"},
            {"snippet a{$", "1@11"}, {"snippet a{$x}", "1@11"}, {"snippet a{$/}", "1@11"}, {"snippet a{$:}", "1@11"},
            {"snippet a{$ 1}", "1@11"}, {"snippet a{$\t}", "1@11"},
            {"snippet a{${", "1@12"}, {"snippet a{${}", "1@12"}, {"snippet a{${x}", "1@12"}, {"snippet a{${ 1}", "1@12"},
            {"snippet a{${$}", "1@12"}, {"snippet a{${/}", "1@12"}, {"snippet a{${:}", "1@12"},
            {"snippet a{${1", "1@13"}, {"snippet a{${12}}", "1@13"}, {"snippet a{${1 }", "1@13"}, {"snippet a{${1{", "1@13"},
            {"snippet a{${1/", "1@14"}, {"snippet a{${1/x}}", "1@14"}, {"snippet a{${1/}}", "1@14"}, {"snippet a{${1/U}}", "1@14"},
            {"snippet a{${1/u", "1@15"}, {"snippet a{${1/uu}", "1@15"}, {"snippet a{${1/u:x}}", "1@15"},
            {"snippet a{${1:", "1@14"}, {"snippet a{${1:x", "1@15"}, {"snippet a{${1:x}", "1@16"}, {"snippet a{${1:\t}}", "1@14"},
            {"snippet a{${1:$x}}", "1@15"}, {"snippet a{$1}}", "1@13"}, {"snippet a{$$$", "1@13"}, {"snippet a{$}", "1@12"},
        });
    }

    private static void tooNested(Suite s) {
        errors(s, new Bench(), new String[][] {
            {"snippet a{${1:${2:${3:${4:${5:x}}}}}}", "2@26"}, {"snippet a{${1:${2:${3:${4:a${5:", "2@27"},
            {"snippet a{${1:${2:${3:${4:${5;", "1@29"}, {"snippet a{${1:${2:${3:${4:${5", "1@29"},
            {"snippet a{${1:${2:${3:${4:${5/u}$6${7}}${8:}}${8:}}}}", "1"},
            {"snippet a{${1:${2:${3:${4:x}${5:${6:x}}}}}}", "2@32"}, {"snippet a{$0$0${1:${2:${3:${4:$6${5:x}}}}}}", "2@32"},
        });
    }

    private static void sameName(Suite s) {
        errors(s, new Bench(), new String[][] {
            {"snippet a{}snippet a{}", "3@19"}, {"snippet a{}snippet b{}snippet a", "3@30"}, {"snippet a{}snippet aa{}snippet ab{}", "3"},
            {"snippet abcdefgh{}snippet abcdefgh{}", "3@26"}, {"snippet abcdefgh{}snippet abcdefgi{}snippet bbcdefgh{}", "3"},
            {"snippet a{}snippet  a$", "3@20"},
        });
        Bench b = Bench.with("snippet a{}");
        s.due("a name of the library before", "1", () -> b.loaded("snippet a{}"));
    }

    private static void dependsOnItself(Suite s) {
        errors(s, new Bench(), new String[][] {
            {"snippet a{${1:$1}}", "4@14"}, {"snippet a{${1:${1}}}", "4@14"}, {"snippet a{${1:x${1/u}}}", "4@15"},
            {"snippet a{${1:${1:x}}}", "4@14"}, {"snippet a{${1:${2:$1}}}", "4@18"}, {"snippet a{${1:$2}${2:$1}}", "4@21"},
            {"snippet a{${1:$2}${2:$3}${3:$1}}", "4@28"}, {"snippet a{${2:$3}${3:${4:$5}}${5:$2}}", "4@33"},
            {"snippet a{${1:${2:x}${3:$2}}${2:$3}}", "4@32"}, {"snippet a{${2:${3:x}}${3:${1:$0}}${0:$2}}", "4@37"},
            {"snippet a{$1${1:$2}$1$2${2:$3}$2}", "1"}, {"snippet a{${1:$2$2}${1:$3}${2:$3}${1:$2}}", "1"},
            {"snippet a{${1:$2}}snippet b{${2:$1}}", "2"}, {"snippet a{${9:$0}${0:$9}}", "4@21"},
            {"snippet a{${1:$2}${3:$1}${2:$3}}", "4@28"}, {"snippet a{${1:$2}${3:$1}${2:x${4:$3}}}", "4@33"},
        });
    }

    private static void tooMany(Suite s) {
        Bench b = new Bench();
        StringBuilder eight = new StringBuilder();
        for (char c = 'a'; c < 'i'; c++) {
            eight.append("snippet ").append(c).append("{}");
        }
        errors(s, b, new String[][] {
            {eight.toString(), "8"}, {eight + "snippet i{}", "5@88"}, {eight + " snippet", "5@89"}, {eight + "order places;", "8"},
            {eight + "snippets", "1@88"}, {eight + "snippet a{}", "5@88"},
            {"snippet a{" + "$1".repeat(60) + "}", "1"}, {"snippet a{" + "$1".repeat(61) + "}", "5@130"},
            {"snippet a{" + "$1".repeat(60) + "${1:x}}", "5@130"}, {"snippet a{" + "$1".repeat(60) + "x${1", "5@131"},
            {"snippet a{" + "$1".repeat(60) + "$x", "1@131"}, {"snippet a{" + "$1".repeat(60) + "${x", "1@132"},
            {"snippet a{" + "$1".repeat(60) + "${", "1@132"},
            {"snippet a{" + "$1".repeat(60) + "}snippet b{" + "$2".repeat(60) + "}", "2"},
            {"snippet a{${2:" + "$1".repeat(59) + "}}", "1"}, {"snippet a{${2:" + "$1".repeat(60) + "}}", "5@132"},
        });
    }

    private static void errorsInOrder(Suite s) {
        String full = "$2".repeat(59);
        errors(s, new Bench(), new String[][] {
            {"snippet a{" + full + "${1:$1}}", "4@132"}, {"snippet a{" + full + "${1:$x}}", "1@133"},
            {"snippet a{" + full + "${1:$3}}", "5@132"},
            {"snippet a{${1:${2:${3:${4:${1:x}}}}}}", "4@26"}, {"snippet a{${1:${2:${3:${4:${4:x}}}}}}", "4@26"},
            {"snippet a{" + "$7".repeat(56) + "${1:${2:${3:${4:${5:x}}}}}}", "5@138"},
            {"snippet a{" + "$7".repeat(55) + "${1:${2:${3:${4:${5:x}}}}}}", "2@136"},
            {"snippet a{${1:${1", "4@14"}, {"snippet a{${1:${1x", "4@14"}, {"snippet a{${1:$1\t", "4@14"},
            {"x snippet a{${1:$1}}", "1@0"},
        });
    }

    private static void find(Suite s) {
        Bench b = Bench.with("snippet ab{}snippet a{}snippet abc{}snippet b{}");
        SnippetExpander x = b.x;
        s.due("find ab", 0, () -> b.find("ab"));
        s.due("find a", 1, () -> b.find("a"));
        s.due("find abc", 2, () -> b.find("abc"));
        s.due("find b", 3, () -> b.find("b"));
        s.due("find abcd", NONE, () -> b.find("abcd"));
        s.due("find c", NONE, () -> b.find("c"));
        s.due("find ac", NONE, () -> b.find("ac"));
        s.due("find bb", NONE, () -> b.find("bb"));
        s.due("find an empty name", NONE, x::find);
        s.due("find with a space", NONE, () -> b.find("a "));
        s.due("find 30 bytes", NONE, () -> b.find("a".repeat(30)));
        s.due("find A", NONE, () -> b.find("A"));
        b.put("a");
        x.find();
        s.due("the buffer is empty", 0, () -> x.size(4));
        b.put("zzz");
        x.find();
        s.due("the buffer is empty", 0, () -> x.size(4));
        s.due("no act", "0 0", () -> x.account(0) + " " + x.size(5));
    }

    private static void size(Suite s) {
        Bench b = Bench.with("order places;snippet a{x$1}snippet b{zzz}");
        SnippetExpander x = b.x;
        b.put("1234");
        x.expand(1);
        x.expand(0);
        x.expand(0);
        s.due("sizes", "2 2 3 1 4 3", () -> sizes(x));
        x.setOrder(false);
        x.type(2);
        s.due("sizes", "2 2 3 0 0 5", () -> sizes(x));
        s.throwsArgument("size(-1)", () -> x.size(-1));
        s.throwsArgument("size(6)", () -> x.size(6));
        s.throwsArgument("size(least)", () -> x.size(Integer.MIN_VALUE));
    }

    private static void snippet(Suite s) {
        Bench b = Bench.with("snippet abc{x$1${2:yy$}${1/u}${3:${0:$$}}}${9}z}snippet d{}snippet e{l${1}l${7:q}}");
        SnippetExpander x = b.x;
        s.due("letters", "3 1 1", () -> x.snippet(0, 0) + " " + x.snippet(1, 0) + " " + x.snippet(2, 0));
        s.due("occurrences", "6 0 2", () -> x.snippet(0, 1) + " " + x.snippet(1, 1) + " " + x.snippet(2, 1));
        s.due("fields", "527 0 130", () -> x.snippet(0, 2) + " " + x.snippet(1, 2) + " " + x.snippet(2, 2));
        s.due("nesting", "2 0 0", () -> x.snippet(0, 3) + " " + x.snippet(1, 3) + " " + x.snippet(2, 3));
        s.due("defaults", "3 0 1", () -> x.snippet(0, 4) + " " + x.snippet(1, 4) + " " + x.snippet(2, 4));
        s.due("literals", "6 0 3", () -> x.snippet(0, 5) + " " + x.snippet(1, 5) + " " + x.snippet(2, 5));
        Bench deep = Bench.with("snippet a{${1:${2:${3:${4:x}}}}}snippet b{${1:${2:${3:${4:$5}}}}$6}snippet c{${1:}}");
        s.due("nesting of 3 and 4 and 0", "3 4 0", () -> deep.x.snippet(0, 3) + " " + deep.x.snippet(1, 3) + " " + deep.x.snippet(2, 3));
        s.throwsIndex("snippet(3, 0)", () -> x.snippet(3, 0));
        s.throwsIndex("snippet(-1, 9)", () -> x.snippet(-1, 9));
        s.throwsArgument("snippet(2, 6)", () -> x.snippet(2, 6));
        s.throwsArgument("snippet(0, -1)", () -> x.snippet(0, -1));
    }

    private static void letter(Suite s) {
        Bench b = Bench.with("snippet az{}snippet abcdefgh{}");
        SnippetExpander x = b.x;
        s.due("letters of az", "97 122 -1", () -> x.letter(0, 0) + " " + x.letter(0, 1) + " " + x.letter(0, 2));
        s.due("last letters", "104 -1", () -> x.letter(1, 7) + " " + x.letter(1, 8));
        s.due("letter(0, -1)", NONE, () -> x.letter(0, -1));
        s.due("letter(0, most)", NONE, () -> x.letter(0, Integer.MAX_VALUE));
        s.due("letter(0, least)", NONE, () -> x.letter(0, Integer.MIN_VALUE));
        s.throwsIndex("letter(2, 0)", () -> x.letter(2, 0));
        s.throwsIndex("letter(-1, 0)", () -> x.letter(-1, 0));
    }

    private static void depends(Suite s) {
        Bench b = Bench.with("snippet a{${1:$2x}${2:${3:$4}}${4:$0}$5}snippet b{${1:$2}${1:$3}${3:${5:$4}}}");
        SnippetExpander x = b.x;
        int[] first = {0, 29, 25, 17, 1, 0, 0, 0, 0, 0};
        int[] second = {0, 60, 0, 48, 0, 16, 0, 0, 0, 0};
        for (int f = 0; f < 10; f++) {
            int field = f;
            s.due("depends(0, " + f + ")", first[f], () -> x.depends(0, field));
            s.due("depends(1, " + f + ")", second[f], () -> x.depends(1, field));
        }
        Bench late = Bench.with("snippet a{${3:$4}${2:$3}${1:$2}${4:$5}}");
        s.due("what comes later counts", "60 56 48 32", () -> late.x.depends(0, 1) + " " + late.x.depends(0, 2) + " "
                + late.x.depends(0, 3) + " " + late.x.depends(0, 4));
        s.throwsIndex("depends(2, 0)", () -> x.depends(2, 0));
        s.throwsIndex("depends(-1, 0)", () -> x.depends(-1, 0));
        s.throwsIndex("depends(0, 10)", () -> x.depends(0, 10));
        s.throwsIndex("depends(0, -1)", () -> x.depends(0, -1));
    }

    private static void document(Suite s) {
        Bench b = Bench.with("snippet a{ab}snippet b{<$1>}");
        SnippetExpander x = b.x;
        x.expand(0);
        x.expand(0);
        s.due("the document", "abab", b::document);
        s.throwsIndex("document(4)", () -> x.document(4));
        s.throwsIndex("document(-1)", () -> x.document(-1));
        s.throwsIndex("document(least)", () -> x.document(Integer.MIN_VALUE));
        x.expand(1);
        b.type("\u00e9");
        x.finish();
        s.due("a high byte", 0xe9, () -> x.document(5));
        s.due("size(2)", 7, () -> x.size(2));
    }

    private static void lengthOf(Suite s) {
        Bench b = Bench.with("snippet a{abc$1${2:de}${2/n}${2/f}${1/f}${1/n}}snippet b{}snippet c{" + "x".repeat(450) + "}");
        SnippetExpander x = b.x;
        s.due("lengthOf(0)", 8, () -> x.lengthOf(0));
        s.due("lengthOf(1)", 0, () -> x.lengthOf(1));
        s.due("lengthOf(2)", 450, () -> x.lengthOf(2));
        x.expand(0);
        b.type("zzz");
        s.due("what is typed does not count", 8, () -> x.lengthOf(0));
        s.throwsIndex("lengthOf(3)", () -> x.lengthOf(3));
        s.throwsIndex("lengthOf(-1)", () -> x.lengthOf(-1));
        s.due("no refusal is counted", "0", () -> String.valueOf(x.account(3)));
        // it tells the literals of field 5 in 11111 places
        String tower = "${1:$2$2$2$2$2$2$2$2$2$2}${2:$3$3$3$3$3$3$3$3$3$3}${3:$4$4$4$4$4$4$4$4$4$4}${4:$5$5$5$5$5$5$5$5$5$5}";
        Bench big = Bench.with("snippet a{" + tower + "${5:xxxxxxxxx}}");
        s.due("99999", 99999, () -> Bench.with("snippet a{" + tower + "${5:xxxxxxxxx}}").x.lengthOf(0));
        s.due("100000", 100000, () -> Bench.with("snippet a{" + tower + "${5:xxxxxxxxx}x}").x.lengthOf(0));
        s.due("beyond", 100000, () -> Bench.with("snippet a{" + tower + "${5:xxxxxxxxxx}}").x.lengthOf(0));
        s.due("the session is refused", -3, () -> big.x.expand(0));
        // 6^5 times 5^4 times 500 bytes: more than an int holds
        StringBuilder wide = new StringBuilder("snippet a{");
        for (int f = 0; f < 9; f++) {
            wide.append("${").append(f).append(':').append(("$" + (f + 1)).repeat(f < 5 ? 6 : 5)).append('}');
        }
        wide.append("${9:").append("x".repeat(500)).append("}}");
        s.due("a very long one", 100000, () -> Bench.with(wide.toString()).x.lengthOf(0));
        s.due("it is refused, too", -3, () -> Bench.with(wide.toString()).x.expand(0));
    }
}
