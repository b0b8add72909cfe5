/** Promises 38 to 40: undo and saved states. */
final class UndoTests {
    static void addTo(Suite suite) {
        suite.test("promise 38: undo of each act", UndoTests::undoEach);
        suite.test("promise 38: what undo leaves alone", UndoTests::undoLeaves);
        suite.test("promise 38: the latest 8 acts", UndoTests::eightActs);
        suite.test("promise 39: save", UndoTests::save);
        suite.test("promise 40: restore", UndoTests::restore);
        suite.test("promises 39, 40: all that is saved", UndoTests::allIsSaved);
    }

    private static String state(Bench b) {
        SnippetExpander x = b.x;
        StringBuilder told = new StringBuilder(b.document()).append('/').append(x.size(1)).append(x.size(3));
        for (int level = 0; level < x.size(1); level++) {
            for (int what = 0; what <= 4; what++) {
                told.append(' ').append(x.session(level, what));
            }
        }
        return told.append(x.size(1) > 0 ? " " + b.text() + b.value(1) + "," + b.value(2) : "").toString();
    }

    /** Does the act and undoes it, and does it again. */
    private static void check(Suite s, Bench b, String name, Suite.Call act) {
        String before = state(b);
        int count = b.x.size(5);
        s.due(name + " answers", true, () -> (int) act.answer() >= 0);
        s.due("acts with " + name, Math.min(count + 1, 8), () -> b.x.size(5));
        s.due("undo of " + name, Math.min(count, 7), b.x::undo);
        s.due("the state before " + name, before, () -> state(b));
        act.answer();
    }

    private static void undoEach(Suite s) {
        Bench b = Bench.with("snippet a{<${1:x$3}$2>}snippet b{-$1-}snippet c{lit}");
        SnippetExpander x = b.x;
        check(s, b, "expand c", () -> x.expand(2));
        check(s, b, "expand a", () -> x.expand(0));
        check(s, b, "type", () -> b.type("ab"));
        check(s, b, "type", () -> b.type("cd"));
        check(s, b, "erase", x::erase);
        check(s, b, "reset", x::reset);
        check(s, b, "erase of a default", x::erase);
        check(s, b, "next", x::next);
        check(s, b, "previous", x::previous);
        check(s, b, "go", () -> x.go(2));
        check(s, b, "go again", () -> x.go(2));
        check(s, b, "setOrder", () -> x.setOrder(true));
        check(s, b, "setOrder again", () -> x.setOrder(true));
        check(s, b, "expand c inside", () -> x.expand(2));
        check(s, b, "expand b inside", () -> x.expand(1));
        check(s, b, "type inside", () -> b.type("i"));
        check(s, b, "expand a inside", () -> x.expand(0));
        check(s, b, "drop", x::drop);
        check(s, b, "next out of it", x::next);
        check(s, b, "expand b again", () -> x.expand(1));
        check(s, b, "finish inside", x::finish);
        check(s, b, "finish", x::finish);
        s.due("the document", "lit<lit-i--->", b::document);
    }

    private static void undoLeaves(Suite s) {
        Bench b = Bench.with("snippet a{$1}");
        SnippetExpander x = b.x;
        x.expand(0);
        b.type("q");
        b.load("oops");
        b.put("wait");
        x.go(5);
        x.save(1);
        s.due("undo", 1, x::undo);
        s.due("the buffer stays", 4, () -> x.size(4));
        s.due("the errors stay", "1 0", () -> x.errorCode() + " " + x.errorPosition());
        s.due("the accounts stay", "2 1", () -> x.account(0) + " " + x.account(8));
        s.due("the library stays", 1, () -> x.size(0));
        s.due("undo is no act", 0, x::undo);
        s.throwsState("nothing is left", x::undo);
        s.due("the accounts stay", "2 1", () -> x.account(0) + " " + x.account(8));
        s.due("the saved state stays", "1 q", () -> x.restore(1) + " " + b.text());
    }

    private static void eightActs(Suite s) {
        Bench b = Bench.with("snippet a{$1}");
        SnippetExpander x = b.x;
        x.expand(0);
        for (int i = 0; i < 7; i++) {
            b.type(String.valueOf(i));
        }
        s.due("8 acts", 8, () -> x.size(5));
        b.type("7");
        b.type("8");
        s.due("the latest 8", 8, () -> x.size(5));
        for (int left = 7; left >= 0; left--) {
            int due = left;
            s.due("undo with " + left + " left", due, x::undo);
            s.due("the value then", "012345678".substring(0, left + 1), () -> b.value(1));
        }
        s.throwsState("a ninth", x::undo);
        s.due("the value stays", "0", () -> b.value(1));
        b.type("x");
        b.type("y");
        s.due("undo", 1, x::undo);
        b.type("z");
        s.due("an act behind it", "0xz 2", () -> b.value(1) + " " + x.size(5));
        s.due("undo", "1 0x", () -> x.undo() + " " + b.value(1));
        s.due("undo", "0 0", () -> x.undo() + " " + b.value(1));
        s.throwsState("no more", x::undo);
    }

    private static void save(Suite s) {
        Bench b = Bench.with("snippet a{$1}");
        SnippetExpander x = b.x;
        s.due("save(0)", 0, () -> x.save(0));
        x.expand(0);
        b.type("one");
        s.due("save(1)", 1, () -> x.save(1));
        x.expand(0);
        b.type("two");
        s.due("save(0) again", 2, () -> x.save(0));
        s.throwsIndex("save(2)", () -> x.save(2));
        s.throwsIndex("save(-1)", () -> x.save(-1));
        s.due("no act", "4 4", () -> x.account(0) + " " + x.size(5));
        b.type("!");
        s.due("restore(1)", "1 one", () -> x.restore(1) + " " + b.text());
        s.due("restore(0), which was replaced", "2 two", () -> x.restore(0) + " " + b.text());
    }

    private static void restore(Suite s) {
        Bench b = Bench.with("snippet a{$1}");
        SnippetExpander x = b.x;
        s.throwsState("restore(0)", () -> x.restore(0));
        s.throwsState("restore(1)", () -> x.restore(1));
        s.throwsIndex("restore(2)", () -> x.restore(2));
        s.throwsIndex("restore(-1)", () -> x.restore(-1));
        x.expand(0);
        s.throwsState("restore(0) changes nothing", () -> x.restore(0));
        s.due("an act can be undone still", 1, () -> x.size(5));
        x.save(0);
        s.throwsState("the other one", () -> x.restore(1));
        b.type("a");
        b.put("zz");
        b.load("?");
        b.put("kept");
        s.due("restore(0)", 1, () -> x.restore(0));
        s.due("the state", "0 0", () -> x.session(0, 2) + " " + x.size(5));
        s.throwsState("no act can be undone", x::undo);
        s.due("what stays", "4 1 0 2", () -> x.size(4) + " " + x.errorCode() + " " + x.errorPosition() + " " + x.account(0));
        b.type("kept");
        s.due("it stays saved", "1 ", () -> x.restore(0) + " " + b.text());
        b.type("b");
        s.due("once more", "1 ", () -> x.restore(0) + " " + b.text());
        s.due("nothing to undo", 0, () -> x.size(5));
        x.setOrder(true);
        s.due("undo after it", "0 0", () -> x.undo() + " " + x.size(3));
    }

    private static void allIsSaved(Suite s) {
        Bench b = Bench.with("snippet a{<${1:x$3}$2>}snippet b{-$2$1-}snippet c{lit}");
        SnippetExpander x = b.x;
        x.expand(2);
        x.expand(0);
        b.type("one");
        x.expand(1);
        b.type("two");
        x.next();
        b.type("three");
        x.expand(0);
        x.expand(1);
        x.setOrder(true);
        String before = state(b);
        s.due("save(1)", 4, () -> x.save(1));
        x.drop();
        x.drop();
        b.type("four");
        x.finish();
        x.finish();
        x.expand(2);
        x.expand(0);
        x.setOrder(false);
        b.type("five");
        s.due("restore(1)", 4, () -> x.restore(1));
        s.due("the state", before, () -> state(b));
        x.drop();
        x.drop();
        s.due("the sessions outside", "-threetwo-", b::text);
        x.drop();
        s.due("the outermost one", "<one>", b::text);
        s.due("the document", "lit", b::document);
    }
}
