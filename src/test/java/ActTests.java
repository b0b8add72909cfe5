/** Promises 28 to 37, and sections 3 and 4: acts and their reasons. */
final class ActTests {
    static void addTo(Suite suite) {
        suite.test("promise 28: expand", ActTests::expand);
        suite.test("promise 28: expand what ends at once", ActTests::expandAtOnce);
        suite.test("promise 28: expand refused", ActTests::expandRefused);
        suite.test("promise 29: type", ActTests::type);
        suite.test("promise 29: type refused", ActTests::typeRefused);
        suite.test("promise 30: erase", ActTests::erase);
        suite.test("promise 30: erase refused", ActTests::eraseRefused);
        suite.test("promise 31: reset", ActTests::reset);
        suite.test("promise 32: next", ActTests::next);
        suite.test("promise 32: next refused", ActTests::nextRefused);
        suite.test("promise 33: previous", ActTests::previous);
        suite.test("promise 34: go", ActTests::go);
        suite.test("promise 35: finish", ActTests::finish);
        suite.test("promise 35: finish refused", ActTests::finishRefused);
        suite.test("promise 36: drop", ActTests::drop);
        suite.test("promise 37: setOrder", ActTests::setOrder);
        suite.test("a refused act changes nothing", ActTests::refusedChangesNothing);
    }

    private static void expand(Suite s) {
        Bench b = Bench.with("snippet a{<${2:two}$1>}snippet b{$0$5}snippet c{${0:x}}");
        SnippetExpander x = b.x;
        s.due("expand(1)", 1, () -> x.expand(1));
        s.due("the current field by numbers", 5, () -> x.session(0, 1));
        s.due("expand(0)", 2, () -> x.expand(0));
        s.due("the current field", "1 <two>", () -> x.session(1, 1) + " " + b.text());
        x.setOrder(true);
        s.due("expand(0) by places", 3, () -> x.expand(0));
        s.due("the current field by places", 2, () -> x.session(2, 1));
        s.due("expand(2)", 4, () -> x.expand(2));
        s.due("0 is the current field", 0, () -> x.session(3, 1));
        s.due("acts", "5 5", () -> x.account(0) + " " + x.size(5));
        s.throwsIndex("expand(3)", () -> x.expand(3));
        s.throwsIndex("expand(-1)", () -> x.expand(-1));
        s.due("a fifth", -2, () -> x.expand(2));
        x.drop();
        s.due("nothing is typed in a new one", "0 0", () -> {
            b.type("zz");
            x.drop();
            x.expand(0);
            return x.session(2, 2) + " " + x.field(2, 1);
        });
    }

    private static void expandAtOnce(Suite s) {
        Bench b = Bench.with("snippet a{word}snippet b{$1!}snippet c{}");
        SnippetExpander x = b.x;
        s.due("outermost", 0, () -> x.expand(0));
        s.due("the document", "word", b::document);
        s.due("an empty one", 0, () -> x.expand(2));
        s.due("the document", "word", b::document);
        x.expand(1);
        s.due("in a field that is not typed", 1, () -> x.expand(0));
        s.due("text", "word! 1", () -> b.text() + " " + x.field(1, 1));
        s.due("in a field that is typed", 1, () -> x.expand(0));
        s.due("text", "wordword! 1", () -> b.text() + " " + x.session(0, 1));
        x.reset();
        s.due("an empty one makes it typed", 1, () -> x.expand(2));
        s.due("text", "! 1", () -> b.text() + " " + x.field(1, 1));
        s.due("acts", 7, () -> x.account(0));
        s.due("undo", 6, x::undo);
        s.due("text", "! 0", () -> b.text() + " " + x.field(1, 1));
    }

    private static void expandRefused(Suite s) {
        Bench b = Bench.with("snippet a{" + "x".repeat(400) + "}snippet b{$1" + "y".repeat(190) + "}");
        s.due("400 bytes", 0, () -> b.x.expand(0));
        s.due("590 bytes of the document", 590, () -> {
            b.x.expand(1);
            b.x.finish();
            return b.x.size(2);
        });
        s.due("the document is too short", -9, () -> b.x.expand(0));
        s.due("its account", "3 1", () -> b.x.account(0) + " " + b.x.account(9));
        Bench text = Bench.with("snippet a{" + "x".repeat(401) + "}snippet b{$1" + "y".repeat(60) + "${1:" + "z".repeat(171) + "}}");
        s.due("401 bytes", -3, () -> text.x.expand(0));
        s.due("402 bytes with fields", -3, () -> text.x.expand(1));
        s.due("their account", 2, () -> text.x.account(3));
        Bench exact = Bench.with("snippet b{$1" + "y".repeat(60) + "${1:" + "z".repeat(170) + "}}");
        s.due("400 bytes with fields", 1, () -> exact.x.expand(0));
        Bench ten = Bench.with("snippet a{0123456789}snippet b{" + "x".repeat(400) + "}snippet c{" + "x".repeat(190) + "}snippet d{x}");
        ten.x.expand(1);
        ten.x.expand(2);
        s.due("exactly 600", "0 600", () -> ten.x.expand(0) + " " + ten.x.size(2));
        s.due("601", "-9 600", () -> ten.x.expand(3) + " " + ten.x.size(2));
        Bench typed = Bench.with("snippet a{$1}snippet b{" + "x".repeat(40) + "}snippet c{" + "x".repeat(41) + "}snippet d{x}snippet e{}");
        typed.x.expand(0);
        s.due("41 bytes in a field", -4, () -> typed.x.expand(2));
        s.due("it is not typed", 0, () -> typed.x.field(1, 1));
        s.due("40 bytes in a field", "1 40", () -> typed.x.expand(1) + " " + typed.x.field(1, 5));
        s.due("one more", -4, () -> typed.x.expand(3));
        s.due("none more", 1, () -> typed.x.expand(4));
        Bench wide = Bench.with("snippet a{" + "$1".repeat(10) + "y}snippet b{" + "x".repeat(40) + "}snippet c{" + "x".repeat(39) + "}");
        wide.x.expand(0);
        s.due("401 bytes outside", -3, () -> wide.x.expand(1));
        s.due("391 bytes outside", "1 391", () -> wide.x.expand(2) + " " + wide.x.session(0, 3));
        s.due("4 comes ahead of 3", -4, () -> wide.x.expand(1));
        Bench deep = Bench.with("snippet a{$1}snippet b{" + "x".repeat(401) + "}");
        for (int i = 0; i < 4; i++) {
            deep.x.expand(0);
        }
        s.due("2 comes ahead of 3", -2, () -> deep.x.expand(1));
        deep.x.drop();
        s.due("3 comes ahead of 4", -3, () -> deep.x.expand(1));
        Bench full = Bench.with("snippet a{" + "x".repeat(200) + "}snippet b{" + "x".repeat(401) + "}snippet c{}snippet d{x}");
        for (int i = 0; i < 3; i++) {
            full.x.expand(0);
        }
        s.due("3 comes ahead of 9", -3, () -> full.x.expand(1));
        s.due("a byte behind the full document", -9, () -> full.x.expand(3));
        s.due("nothing behind it", 0, () -> full.x.expand(2));
    }

    private static void type(Suite s) {
        Bench b = Bench.open("snippet a{[${1:abc}]$1$2}");
        SnippetExpander x = b.x;
        b.put("hello");
        s.due("type(2)", 2, () -> x.type(2));
        s.due("text", "[he]he", b::text);
        s.due("the buffer is empty", 0, () -> x.size(4));
        s.due("behind it", 7, () -> b.type("world"));
        s.due("text", "[heworld]heworld", b::text);
        x.next();
        s.due("another field", 1, () -> b.type("!"));
        s.due("text", "[heworld]heworld!", b::text);
        s.due("20 bytes", 21, () -> b.type("01234567890123456789"));
        s.due("acts", "6 6", () -> x.account(0) + " " + x.size(5));
        b.put("abc");
        s.throwsElement("type(4)", () -> x.type(4));
        s.due("the buffer stays", 3, () -> x.size(4));
        s.throwsArgument("type(0)", () -> x.type(0));
        s.throwsArgument("type(21)", () -> x.type(21));
        s.throwsArgument("type(-1)", () -> x.type(-1));
        s.due("the buffer stays", 3, () -> x.size(4));
        s.due("no refusal", "0 6", () -> x.account(4) + " " + x.account(0));
        s.due("all of it", 24, () -> x.type(3));
        Bench braces = Bench.open("snippet a{$1}");
        braces.type("$1}${2:x}");
        s.due("what is typed is told as it is", "$1}${2:x}", braces::text);
    }

    private static void typeRefused(Suite s) {
        Bench b = Bench.with("snippet a{$1}snippet b{" + "$1".repeat(40) + "}snippet c{$1" + "x".repeat(390) + "}");
        SnippetExpander x = b.x;
        s.due("without session", -1, () -> b.type("abc"));
        s.due("the buffer is empty", "0 1", () -> x.size(4) + " " + x.account(1));
        s.throwsArgument("type(0) without session", () -> x.type(0));
        s.throwsElement("type(1) without session", () -> x.type(1));
        x.expand(0);
        b.type("x".repeat(20));
        b.type("x".repeat(19));
        s.due("41", -4, () -> b.type("yz"));
        s.due("the buffer is empty", "0 1 39", () -> x.size(4) + " " + x.account(4) + " " + x.field(1, 5));
        s.due("40", 40, () -> b.type("y"));
        s.due("41", -4, () -> b.type("z"));
        x.drop();
        x.expand(1);
        s.due("440 bytes", -3, () -> b.type("01234567890"));
        s.due("nothing is typed", "0 0 1", () -> x.size(4) + " " + x.session(0, 2) + " " + x.account(3));
        s.due("400 bytes", 10, () -> b.type("0123456789"));
        s.due("text", 400, () -> x.session(0, 3));
        s.due("3", -3, () -> b.type("x".repeat(20)));
        x.drop();
        x.expand(2);
        s.due("401 bytes", -3, () -> b.type("x".repeat(11)));
        s.due("400 bytes", 10, () -> b.type("x".repeat(10)));
        Bench order = Bench.open("snippet a{" + "$1".repeat(20) + "}");
        order.type("x".repeat(20));
        s.due("400 bytes", "20 400", () -> order.x.field(1, 5) + " " + order.x.session(0, 3));
        s.due("3", -3, () -> order.type("x".repeat(20)));
        Bench typed = Bench.open("snippet a{$1${1/f}${1/n}}");
        typed.type("x".repeat(20));
        typed.type("x".repeat(20));
        s.due("4 of a full field", -4, () -> typed.type("x"));
        Bench both = Bench.open("snippet a{" + "$1".repeat(11) + "}");
        both.type("x".repeat(20));
        both.type("x".repeat(16));
        s.due("4 comes ahead of 3", "396 -4 0 1", () -> both.x.session(0, 3) + " " + both.type("x".repeat(20)) + " "
                + both.x.account(3) + " " + both.x.account(4));
        Bench none = Bench.with("snippet a{$1}");
        s.due("1 comes ahead of all", -1, () -> none.type("x".repeat(20)));
    }

    private static void erase(Suite s) {
        Bench b = Bench.open("snippet a{${1:ab${2:c}}${2:de}}");
        SnippetExpander x = b.x;
        s.due("of a default", 2, x::erase);
        s.due("the rest is typed", "ab 1 abde", () -> b.value(1) + " " + x.field(1, 1) + " " + b.text());
        s.due("of what is typed", 1, x::erase);
        s.due("the value", "a", () -> b.value(1));
        s.due("the last byte", 0, x::erase);
        s.due("it is typed all the same", "1 de", () -> x.field(1, 1) + " " + b.text());
        s.due("nothing is left", -5, x::erase);
        s.due("acts", "4 1", () -> x.account(0) + " " + x.account(5));
        b.type("xy");
        s.due("behind it", "xyde", b::text);
        Bench changed = Bench.open("snippet a{${1:<${2/u}${2/n}>}${2:ab}}");
        s.due("with changes in it", 4, changed.x::erase);
        s.due("text", "<AB2ab", changed::text);
        Bench full = Bench.open("snippet a{${1:" + "x".repeat(41) + "}}");
        s.due("40 are left", "40 40", () -> full.x.erase() + " " + full.x.session(0, 3));
    }

    private static void eraseRefused(Suite s) {
        Bench b = Bench.with("snippet a{$1}snippet b{${1:" + "x".repeat(42) + "}}");
        SnippetExpander x = b.x;
        s.due("without session", "-1 1", () -> x.erase() + " " + x.account(1));
        x.expand(0);
        s.due("an empty value", "-5 1 0", () -> x.erase() + " " + x.account(5) + " " + x.field(1, 1));
        x.drop();
        x.expand(1);
        s.due("41 would be left", "-4 1 0", () -> x.erase() + " " + x.account(4) + " " + x.field(1, 1));
        String late = "snippet a{${1:${2:aa}}${2:" + "b".repeat(398) + "}x}";
        Bench exact = Bench.open(late.replace("}x}", "}}").replace("aa", "aaa"));
        s.due("400 bytes then", "2 400", () -> exact.x.erase() + " " + exact.x.session(0, 3));
        Bench over = Bench.open(late.replace("aa", "aaa").replace("}x}", "}xx}").replace("b".repeat(398), "b".repeat(397)));
        s.due("401 bytes then", "-3 1 0", () -> over.x.erase() + " " + over.x.account(3) + " " + over.x.field(1, 1));
        Bench both = Bench.open("snippet a{${1:${2:" + "a".repeat(42) + "}}${2:" + "b".repeat(310) + "}" + "c".repeat(100) + "}");
        s.due("4 comes ahead of 3", "-4 0 1", () -> both.x.erase() + " " + both.x.account(3) + " " + both.x.account(4));
        Bench five = Bench.open("snippet a{${1:${2:}}${2:" + "b".repeat(401) + "}}");
        s.due("5 comes ahead of 3", "-5 0", () -> five.x.erase() + " " + five.x.account(3));
    }

    private static void reset(Suite s) {
        Bench b = Bench.open("snippet a{${1:ab${2:c}}$3}");
        SnippetExpander x = b.x;
        s.due("not typed", "-6 1", () -> x.reset() + " " + x.account(6));
        b.type("x");
        s.due("its default is told again", 3, x::reset);
        s.due("text", "abc 0", () -> b.text() + " " + x.session(0, 2));
        b.type("q");
        x.erase();
        s.due("an empty text", 3, x::reset);
        x.go(3);
        b.type("q");
        s.due("without default", "0 abc", () -> x.reset() + " " + b.text());
        b.type("new");
        s.due("what was typed is gone", "abcnew", b::text);
        x.drop();
        s.due("without session", "-1 1", () -> x.reset() + " " + x.account(1));
        String text = "snippet a{${1:" + "x".repeat(100) + "}" + "$1".repeat(3) + "$2}";
        Bench exact = Bench.open(text);
        exact.type("y");
        s.due("400 bytes then", "100 400", () -> exact.x.reset() + " " + exact.x.session(0, 3));
        Bench over = Bench.open(text);
        over.type("y");
        over.x.go(2);
        over.type("z");
        over.x.go(1);
        s.due("401 bytes then", "-3 1 1", () -> over.x.reset() + " " + over.x.account(3) + " " + over.x.field(1, 1));
        over.x.go(2);
        over.x.reset();
        s.due("6 comes ahead of 3", -6, over.x::reset);
    }

    private static void next(Suite s) {
        Bench b = Bench.with("snippet a{$2${1:x$3}$0}snippet b{<$1>}");
        SnippetExpander x = b.x;
        x.expand(0);
        s.due("to 2", 2, x::next);
        s.due("to 3", 3, x::next);
        s.due("to 0", 0, x::next);
        s.due("the end", 10, x::next);
        s.due("the document", "x 0", () -> b.document() + " " + x.size(1));
        s.due("acts", "5 5", () -> x.account(0) + " " + x.size(5));
        s.due("without session", "-1 1", () -> x.next() + " " + x.account(1));
        x.setOrder(true);
        x.expand(0);
        s.due("by places, to 1", "2 1", () -> x.session(0, 1) + " " + x.next());
        x.expand(1);
        b.type("in");
        s.due("the inner one ends", 1, x::next);
        s.due("what is typed", "<in> 1", () -> b.value(1) + " " + x.size(1));
        s.due("3 is not live any more", 0, x::next);
        x.expand(1);
        s.due("the inner one ends in 0", 0, x::next);
        s.due("its text", "<in><>", b::text);
        s.due("the end", "10 x<in><>", () -> x.next() + " " + b.document());
    }

    private static void nextRefused(Suite s) {
        Bench b = Bench.with("snippet a{$1}snippet b{" + "x".repeat(300) + "}snippet c{$2x}snippet d{$1" + "$1".repeat(19) + "y}");
        SnippetExpander x = b.x;
        x.expand(1);
        x.expand(1);
        x.expand(2);
        s.due("601 bytes", "-9 1 600", () -> x.next() + " " + x.account(9) + " " + x.size(2));
        s.due("the session stays", "1 2", () -> x.size(1) + " " + x.session(0, 1));
        x.drop();
        x.expand(0);
        s.due("600 bytes", 10, x::next);
        x.expand(0);
        b.type("x".repeat(20));
        b.type("x".repeat(20));
        x.expand(2);
        s.due("41 bytes in a field", "-4 1 2", () -> x.next() + " " + x.account(4) + " " + x.size(1));
        x.drop();
        x.erase();
        x.expand(2);
        s.due("40 bytes in a field", 1, x::next);
        x.drop();
        x.expand(3);
        b.type("x".repeat(19));
        x.expand(2);
        s.due("401 bytes outside", "381 -3 1 2", () -> x.session(0, 3) + " " + x.next() + " " + x.account(3) + " " + x.size(1));
        x.drop();
        x.erase();
        x.expand(2);
        s.due("381 bytes outside", "1 381", () -> x.next() + " " + x.session(0, 3));
    }

    private static void previous(Suite s) {
        Bench b = Bench.open("snippet a{$3${1:$2}$0}");
        SnippetExpander x = b.x;
        s.due("none ahead", "-7 1 1", () -> x.previous() + " " + x.account(7) + " " + x.session(0, 1));
        x.go(0);
        s.due("to 3", 3, x::previous);
        s.due("to 2", 2, x::previous);
        s.due("to 1", 1, x::previous);
        s.due("none ahead", -7, x::previous);
        x.setOrder(true);
        s.due("by places, to 3", "3 3", () -> x.previous() + " " + x.session(0, 1));
        s.due("none ahead", -7, x::previous);
        x.go(1);
        b.type("t");
        x.go(0);
        s.due("2 is passed over", 1, x::previous);
        s.due("acts", 11, () -> x.account(0));
        x.drop();
        s.due("without session", "-1 1", () -> x.previous() + " " + x.account(1));
    }

    private static void go(Suite s) {
        Bench b = Bench.open("snippet a{${1:$2}$9$0}");
        SnippetExpander x = b.x;
        s.due("to 9", "1 9", () -> x.go(9) + " " + x.session(0, 1));
        s.due("to 9 again", 9, () -> x.go(9));
        s.due("to 0", "9 0", () -> x.go(0) + " " + x.session(0, 1));
        s.due("to 3", "-8 1 0", () -> x.go(3) + " " + x.account(8) + " " + x.session(0, 1));
        s.due("to 1", 0, () -> x.go(1));
        b.type("x");
        s.due("to 2", -8, () -> x.go(2));
        s.due("acts", "6 6", () -> x.account(0) + " " + x.size(5));
        s.throwsIndex("go(10)", () -> x.go(10));
        s.throwsIndex("go(-1)", () -> x.go(-1));
        x.drop();
        s.due("without session", "-1 1", () -> x.go(0) + " " + x.account(1));
        s.throwsIndex("go(10) without session", () -> x.go(10));
        s.due("no refusal by an exception", 1, () -> x.account(1));
    }

    private static void finish(Suite s) {
        Bench b = Bench.with("snippet a{a$1z}snippet b{($1$2)}");
        SnippetExpander x = b.x;
        x.expand(0);
        b.type("1");
        x.expand(1);
        b.type("2");
        x.expand(0);
        s.due("finish", 2, x::finish);
        s.due("text", "(2az)", b::text);
        x.next();
        s.due("finish", 1, x::finish);
        s.due("text", "a1(2az)z 1", () -> b.text() + " " + x.session(0, 1));
        s.due("finish", 0, x::finish);
        s.due("the document", "a1(2az)z", b::document);
        x.expand(0);
        s.due("finish", 0, x::finish);
        s.due("behind it", "a1(2az)zaz", b::document);
        s.due("without session", "-1 1", () -> x.finish() + " " + x.account(1));
        s.due("acts", 11, () -> x.account(0));
        x.expand(0);
        x.expand(1);
        x.reset();
        x.finish();
        s.due("a field that was not typed is typed", "() 1", () -> b.value(1) + " " + x.field(1, 1));
        Bench empty = Bench.with("snippet a{${1:xyz}}snippet b{$1}");
        empty.x.expand(0);
        empty.x.expand(1);
        empty.x.finish();
        s.due("the default yields to an empty TEXT", "1 0", () -> empty.x.field(1, 1) + " " + empty.x.session(0, 3));
        Bench outer = Bench.with("snippet a{${1:xyz$2}}snippet b{${3:q}}");
        outer.x.expand(0);
        outer.x.go(2);
        outer.x.expand(1);
        outer.x.finish();
        s.due("nothing of the default of the field around", "xyzq 0 1", () -> outer.text() + " " + outer.x.field(1, 1) + " "
                + outer.x.field(2, 1));
    }

    private static void finishRefused(Suite s) {
        Bench b = Bench.with("snippet a{$1}snippet b{" + "x".repeat(300) + "}snippet c{$2x}snippet d{$1" + "$1".repeat(19) + "y}"
                + "snippet e{$1" + "x".repeat(40) + "}");
        SnippetExpander x = b.x;
        x.expand(1);
        x.expand(1);
        x.expand(2);
        s.due("601 bytes", "-9 1 600", () -> x.finish() + " " + x.account(9) + " " + x.size(2));
        x.drop();
        x.expand(0);
        s.due("600 bytes", 0, x::finish);
        x.expand(0);
        x.expand(4);
        s.due("40 bytes in a field", "1 40", () -> x.finish() + " " + x.field(1, 5));
        x.reset();
        x.expand(4);
        b.type("x");
        s.due("41 bytes in a field", "-4 1 2", () -> x.finish() + " " + x.account(4) + " " + x.size(1));
        x.drop();
        x.drop();
        x.expand(3);
        b.type("x".repeat(19));
        x.expand(2);
        s.due("401 bytes outside", "-3 1 2", () -> x.finish() + " " + x.account(3) + " " + x.size(1));
        b.type("x".repeat(20));
        s.due("a session full of it", -3, x::finish);
        b.type("x");
        s.due("4 comes ahead of 3", "-4 2", () -> x.finish() + " " + x.account(4));
        Bench exact = Bench.with("snippet a{" + "$1".repeat(20) + "}snippet b{$1}");
        exact.x.expand(0);
        exact.x.expand(1);
        exact.type("x".repeat(20));
        s.due("400 bytes outside", "1 400", () -> exact.x.finish() + " " + exact.x.session(0, 3));
        Bench inner = Bench.with("snippet a{$1}snippet b{$1" + "x".repeat(400) + "}snippet c{" + "x".repeat(250) + "}");
        inner.x.expand(2);
        inner.x.expand(0);
        inner.x.expand(1);
        s.due("the document is not asked", "-4 0", () -> inner.x.finish() + " " + inner.x.account(9));
        inner.x.drop();
        inner.x.drop();
        inner.x.expand(1);
        s.due("650 bytes", "-9 250", () -> inner.x.finish() + " " + inner.x.size(2));
    }

    private static void drop(Suite s) {
        Bench b = Bench.with("snippet a{a$1}snippet b{b$2}");
        SnippetExpander x = b.x;
        x.expand(0);
        b.type("q");
        x.expand(1);
        b.type("zz");
        s.due("drop", 1, x::drop);
        s.due("its TEXT is gone", "aq 1", () -> b.text() + " " + x.session(0, 1));
        s.due("drop", 0, x::drop);
        s.due("the document", "", b::document);
        s.due("without session", "-1 1 6", () -> x.drop() + " " + x.account(1) + " " + x.account(0));
        x.undo();
        s.due("undone", "aq", b::text);
        x.undo();
        s.due("undone", "bzz", b::text);
    }

    private static void setOrder(Suite s) {
        Bench b = Bench.with("snippet a{$2$1$0}");
        SnippetExpander x = b.x;
        s.due("numbers before", "0 0", () -> x.setOrder(false) + " " + x.size(3));
        s.due("numbers before", "0 1", () -> x.setOrder(true) + " " + x.size(3));
        s.due("places before", "1 1", () -> x.setOrder(true) + " " + x.size(3));
        s.due("places before", "1 0", () -> x.setOrder(false) + " " + x.size(3));
        s.due("each is an act", "4 4", () -> x.account(0) + " " + x.size(5));
        x.expand(0);
        x.expand(0);
        x.setOrder(true);
        s.due("the current field stays", "1 1 210", () -> x.session(0, 1) + " " + x.session(1, 1) + " " + b.order());
        x.drop();
        s.due("for all sessions", "210", b::order);
        s.due("next by places", 0, x::next);
    }

    private static void refusedChangesNothing(Suite s) {
        Bench b = Bench.with("order places;snippet a{" + "$1".repeat(20) + "${2:k}}snippet b{0123456789}snippet c{" + "z".repeat(401) + "}");
        SnippetExpander x = b.x;
        x.expand(0);
        b.type("x".repeat(19));
        x.save(0);
        b.put("abc");
        String before = state(b);
        s.due("refusals", "-3 -3 -8 -7", () -> x.expand(1) + " " + x.expand(2) + " " + x.go(3) + " " + x.previous());
        s.due("what is as before", before, () -> state(b));
        s.due("the buffer, too", 3, () -> x.size(4));
        s.due("an act that can be undone", 1, x::undo);
        s.due("is the one before", "k", b::text);
        s.due("a refused type", -3, () -> {
            x.restore(0);
            return b.type("x".repeat(15));
        });
        s.due("what is as before but for what can be undone", before.replace("u2", "u0"), () -> state(b));
    }

    private static String state(Bench b) {
        SnippetExpander x = b.x;
        StringBuilder told = new StringBuilder();
        told.append(b.text()).append(' ').append(b.document()).append(' ').append(b.order()).append(" u").append(x.size(5));
        for (int what = 0; what <= 4; what++) {
            told.append(' ').append(x.session(0, what));
        }
        return told.append(' ').append(x.size(1)).append(x.size(3)).append(x.account(0)).toString();
    }
}
