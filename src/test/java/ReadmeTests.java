import java.io.IOException;
import java.lang.reflect.InvocationTargetException;
import java.lang.reflect.Method;
import java.lang.reflect.Modifier;
import java.nio.file.Files;
import java.nio.file.Path;
import java.util.regex.Matcher;
import java.util.regex.Pattern;

/** The examples of README.md, each with the answer that stands behind it there. */
final class ReadmeTests {
    private static final Path README = Path.of("README.md");
    private static final Pattern CALL = Pattern.compile("x\\.(\\w+)\\((.*)\\); *// (throws\\.\\w+|-?\\d+).*");
    private static final Pattern PUT = Pattern.compile("put\\(x, \"(.*)\"\\);");
    private static final Pattern TEXT = Pattern.compile(".* TEXT is \"(.*)\"");
    private static final Pattern DOCUMENT = Pattern.compile(".* document is \"(.*)\"");

    static void addTo(Suite suite) {
        suite.test("README.md: the examples", ReadmeTests::examples);
        suite.test("README.md: it names each method", ReadmeTests::names);
    }

    private static String readme() {
        try {
            return Files.readString(README);
        } catch (IOException e) {
            throw new IllegalStateException(e);
        }
    }

    private static void examples(Suite s) {
        Bench bench = new Bench();
        int calls = 0;
        for (String line : readme().split("\n")) {
            Matcher call = CALL.matcher(line);
            Matcher put = PUT.matcher(line);
            if (line.startsWith("SnippetExpander x = new")) {
                bench = new Bench();
            } else if (put.matches()) {
                bench.put(put.group(1));
            } else if (call.matches()) {
                SnippetExpander x = bench.x;
                s.due(line, call.group(3), () -> answer(x, call.group(1), call.group(2)));
                texts(s, bench, line);
                calls++;
            } else if (line.startsWith("x.")) {
                s.complain("no answer stands behind " + line);
            }
        }
        int asked = calls;
        s.due("calls with an answer", true, () -> asked > 20);
    }

    /** What the line says of the TEXT or the document that there is then. */
    private static void texts(Suite s, Bench bench, String line) {
        Matcher text = TEXT.matcher(line);
        Matcher document = DOCUMENT.matcher(line);
        if (text.matches()) {
            s.due("the TEXT of " + line, text.group(1), bench::text);
        }
        if (document.matches()) {
            s.due("the document of " + line, document.group(1), bench::document);
        }
    }

    private static Object answer(SnippetExpander x, String name, String list) {
        String[] given = list.isEmpty() ? new String[0] : list.split(", ");
        for (Method method : SnippetExpander.class.getMethods()) {
            if (method.getName().equals(name) && method.getParameterCount() == given.length) {
                try {
                    return method.invoke(x, arguments(method, given));
                } catch (InvocationTargetException e) {
                    throw (RuntimeException) e.getCause();
                } catch (IllegalAccessException e) {
                    throw new IllegalStateException(e);
                }
            }
        }
        return "no such method";
    }

    private static Object[] arguments(Method method, String[] given) {
        Object[] arguments = new Object[given.length];
        for (int i = 0; i < given.length; i++) {
            boolean isBoolean = method.getParameterTypes()[i] == boolean.class;
            arguments[i] = isBoolean ? (Object) Boolean.valueOf(given[i]) : Integer.decode(given[i]);
        }
        return arguments;
    }

    private static void names(Suite s) {
        String readme = readme();
        for (Method method : SnippetExpander.class.getDeclaredMethods()) {
            String name = method.getName();
            if (Modifier.isPublic(method.getModifiers())) {
                s.due("it names " + name, true, () -> readme.contains("`" + name + "`"));
            }
        }
    }
}
