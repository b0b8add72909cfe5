import java.io.IOException;
import java.lang.management.ManagementFactory;
import java.lang.reflect.Constructor;
import java.lang.reflect.Field;
import java.lang.reflect.Method;
import java.lang.reflect.Modifier;
import java.nio.file.Files;
import java.nio.file.Path;
import java.util.ArrayList;
import java.util.Arrays;
import java.util.Collections;
import java.util.List;
import java.util.regex.Pattern;

/** The public face, the room that an object takes, and the rules of LANGUAGE.md that a glance can see. */
final class FaceTests {
    private static final Path SOURCE = Path.of("src", "main", "java", "SnippetExpander.java");
    private static final String[] FACE = {
        "int append(int, int, int, int, int) IllegalStateException", "int load()", "int errorCode()", "int errorPosition()",
        "int find()", "int size(int) IllegalArgumentException",
        "int snippet(int, int) IndexOutOfBoundsException IllegalArgumentException",
        "int letter(int, int) IndexOutOfBoundsException", "int depends(int, int) IndexOutOfBoundsException",
        "int document(int) IndexOutOfBoundsException",
        "int session(int, int) IndexOutOfBoundsException IllegalArgumentException",
        "int account(int) IllegalArgumentException",
        "int field(int, int) IndexOutOfBoundsException IllegalArgumentException IllegalStateException",
        "int value(int, int) IndexOutOfBoundsException IllegalStateException",
        "int occurrence(int, int) IllegalStateException IndexOutOfBoundsException IllegalArgumentException",
        "int text(int) IllegalStateException", "int orderAt(int) IllegalStateException",
        "int why(int) IndexOutOfBoundsException IllegalStateException", "int yielded() IllegalStateException",
        "int mirrored() IllegalStateException", "int longest() IllegalStateException",
        "float untouched() IllegalStateException", "double meanLength() IllegalStateException",
        "int lengthIf(int) IllegalArgumentException IllegalStateException",
        "int wouldHide(int) IndexOutOfBoundsException IllegalStateException",
        "int lengthOf(int) IndexOutOfBoundsException", "int expand(int) IndexOutOfBoundsException",
        "int type(int) IllegalArgumentException NoSuchElementException", "int erase()", "int reset()", "int next()",
        "int previous()", "int go(int) IndexOutOfBoundsException", "int finish()", "int drop()", "int setOrder(boolean)",
        "int undo() IllegalStateException", "int save(int) IndexOutOfBoundsException",
        "int restore(int) IndexOutOfBoundsException IllegalStateException",
    };
    private static final String[] FORBIDDEN = {
        "->", "::", "\\bcatch\\b", "\\btry\\b", "\\bfinally\\b", "\\bsynchronized\\b", "\\bassert\\b",
        "\\brandom\\b", "\\bSystem\\.(?!arraycopy)", "\\bThread\\b", "\\bprotected\\b", "\\bpackage\\b",
        "\\bstatic \\{", "\" \\+", "\\+ \"", "\\bObject\\b", "\\bvar\\b", "Exact\\b",
    };

    static void addTo(Suite suite) {
        suite.test("the public face", FaceTests::face);
        suite.test("no other members can be seen", FaceTests::noOthers);
        suite.test("the room of an object", FaceTests::room);
        suite.test("the words of the source", FaceTests::words);
        suite.test("the lengths of methods", FaceTests::lengths);
    }

    private static void face(Suite s) {
        List<String> got = new ArrayList<>();
        for (Method method : SnippetExpander.class.getDeclaredMethods()) {
            if (Modifier.isPublic(method.getModifiers())) {
                got.add(told(method));
            }
        }
        List<String> want = new ArrayList<>(Arrays.asList(FACE));
        Collections.sort(got);
        Collections.sort(want);
        s.due("the methods", want, () -> got);
        s.due("the class is public and final", Modifier.PUBLIC | Modifier.FINAL, SnippetExpander.class::getModifiers);
    }

    private static String told(Method method) {
        StringBuilder told = new StringBuilder();
        told.append(method.getReturnType().getSimpleName()).append(' ').append(method.getName()).append('(');
        for (Class<?> type : method.getParameterTypes()) {
            told.append(told.charAt(told.length() - 1) == '(' ? "" : ", ").append(type.getSimpleName());
        }
        told.append(')');
        for (Class<?> type : method.getExceptionTypes()) {
            told.append(' ').append(type.getSimpleName());
        }
        return told.toString();
    }

    private static void noOthers(Suite s) {
        Class<?> face = SnippetExpander.class;
        for (Field field : face.getDeclaredFields()) {
            boolean isPrivate = Modifier.isPrivate(field.getModifiers());
            s.due("private " + field.getName(), !field.getName().equals("NONE"), () -> isPrivate);
            boolean isStatic = Modifier.isStatic(field.getModifiers());
            s.due("final if static " + field.getName(), true, () -> !isStatic || Modifier.isFinal(field.getModifiers()));
        }
        List<String> names = new ArrayList<>();
        for (Method method : face.getDeclaredMethods()) {
            int modifiers = method.getModifiers();
            s.due("public or private " + method.getName(), true, () -> Modifier.isPublic(modifiers) || Modifier.isPrivate(modifiers));
            s.due("a name of its own " + method.getName(), false, () -> names.contains(method.getName()));
            names.add(method.getName());
        }
        for (Constructor<?> constructor : face.getDeclaredConstructors()) {
            s.due("the constructor has no parameters", 0, constructor::getParameterCount);
        }
        s.due("one constructor", 1, () -> face.getDeclaredConstructors().length);
        for (Class<?> inside : face.getDeclaredClasses()) {
            s.due("static " + inside.getName(), true, () -> Modifier.isStatic(inside.getModifiers()));
            s.due("not public " + inside.getName(), false, () -> Modifier.isPublic(inside.getModifiers()));
        }
    }

    /** All calls of a run live in one room, so what a call makes counts, and an object must be small. */
    private static void room(Suite s) {
        com.sun.management.ThreadMXBean bean = (com.sun.management.ThreadMXBean) ManagementFactory.getThreadMXBean();
        dearCallsOf(new SnippetExpander());
        long thread = Thread.currentThread().getId();
        long before = bean.getThreadAllocatedBytes(thread);
        SnippetExpander x = new SnippetExpander();
        long made = bean.getThreadAllocatedBytes(thread) - before;
        s.due("an object below 300000 bytes, of which it made " + made, true, () -> made < 300000);
        before = bean.getThreadAllocatedBytes(thread);
        dearCallsOf(x);
        long later = bean.getThreadAllocatedBytes(thread) - before;
        s.due("its calls make nothing, but made " + later, true, () -> later < 1000);
    }

    /** Many calls with the text "snippet a{${1:$2}$1}", without an object made on the way. */
    private static void dearCallsOf(SnippetExpander x) {
        for (int i = 0; i < 30; i++) {
            x.append(0x736e6970, 0x70657420, 0x617b247b, 0x313a2432, 0x7d24317d);
            x.load();
            x.expand(0);
            x.append(0x736e6970, 0x70657420, 0x617b247b, 0x313a2432, 0x7d24317d);
            x.type(20);
            x.erase();
            x.wouldHide(1);
            x.lengthIf(20);
            x.text(3);
            x.occurrence(2, 7);
            x.save(1);
            x.restore(1);
            x.expand(0);
            x.next();
            x.finish();
            x.undo();
        }
    }

    private static String source() {
        try {
            return Files.readString(SOURCE);
        } catch (IOException e) {
            throw new IllegalStateException(e);
        }
    }

    private static void words(Suite s) {
        String source = source().replaceAll("(?m)//.*$|/\\*\\*.*\\*/", "");
        for (String forbidden : FORBIDDEN) {
            s.due("a place with " + forbidden, false, () -> Pattern.compile(forbidden).matcher(source).find());
        }
        s.due("imports", "import java.util.NoSuchElementException;", () -> String.join("",
                source.lines().filter(line -> line.startsWith("import ")).toList()));
    }

    private static void lengths(Suite s) {
        int start = 0;
        int number = 0;
        for (String line : source().split("\n")) {
            number++;
            if (Pattern.matches("( {4}| {8})[a-zA-Z].*\\) .*\\{", line) && !line.contains(" class ")) {
                start = number;
            }
            if (Pattern.matches("( {4}| {8})\\}", line) && number - start > 60) {
                s.complain("a method ends in line " + number + " after more than 60 lines");
            }
        }
    }
}
