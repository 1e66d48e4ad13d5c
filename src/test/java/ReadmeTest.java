import java.io.File;
import java.io.IOException;
import java.lang.reflect.InvocationTargetException;
import java.lang.reflect.Method;
import java.lang.reflect.Modifier;
import java.nio.file.Files;
import java.nio.file.Path;
import java.util.List;
import java.util.Map;
import java.util.TreeMap;
import java.util.regex.Matcher;
import java.util.regex.Pattern;

/** README.md says how to use the class and how to run its tests, and what it says is so. */
public final class ReadmeTest {
    private static final Pattern CALL = Pattern.compile("desk\\.(\\w+)\\(([^)]*)\\); *// ([^:]*)(:.*)?");
    private static final Pattern METHOD_ROW = Pattern.compile("\\| `(\\w+)\\((.*?)\\)` \\| .+ \\| (.+) \\|");
    private static final Pattern EXCEPTION = Pattern.compile("\\w+Exception");
    private static final int KINDS = 14;

    public static void main(String[] args) throws IOException, ReflectiveOperationException {
        List<String> lines = Files.readAllLines(Path.of("README.md"));
        String page = String.join("\n", lines);
        Check.holds("how an object is made", page.contains("new SampleDesk()"));
        Check.holds("how many calls an object serves", page.contains("512 calls"));
        Check.holds("how the tests are run", page.contains("\n.ci/run\n"));
        methods(lines);
        kinds(page);
        tests(page);
        example(lines);
        Check.end();
    }

    /** Each method of the face has one row, with its parameters and the exceptions that it throws. */
    private static void methods(List<String> lines) {
        Map<String, String> rows = new TreeMap<>();
        for (String line : lines) {
            Matcher row = METHOD_ROW.matcher(line);
            if (row.matches()) {
                Check.holds("one row for " + row.group(1), !rows.containsKey(row.group(1)));
                rows.put(row.group(1), row.group(2).split(", ").length + exceptions(row.group(3)));
            }
        }
        Map<String, String> face = new TreeMap<>();
        for (Method method : SampleDesk.class.getMethods()) {
            if (method.getDeclaringClass() == SampleDesk.class) {
                face.put(method.getName(), method.getParameterCount() + exceptions(thrownBy(method)));
            }
        }
        Check.same("the methods with how many parameters they take, and their exceptions", rows, face);
    }

    private static String thrownBy(Method method) {
        StringBuilder names = new StringBuilder();
        for (Class<?> type : method.getExceptionTypes()) {
            names.append(' ').append(type.getSimpleName());
        }
        return names.toString();
    }

    /** The names of exceptions in a text, each once. */
    private static String exceptions(String text) {
        StringBuilder names = new StringBuilder();
        Matcher name = EXCEPTION.matcher(text);
        while (name.find()) {
            if (names.indexOf(name.group()) < 0) {
                names.append(' ').append(name.group());
            }
        }
        return names.toString();
    }

    private static void kinds(String page) {
        for (int kind = 0; kind < KINDS; kind++) {
            Check.holds("a row for kind " + kind, page.contains("\n| " + kind + " | "));
        }
        Check.holds("no row for a kind that is none", !page.contains("\n| " + KINDS + " | "));
    }

    private static void tests(String page) {
        File[] sources = new File("src/test/java").listFiles();
        Check.holds("there are tests", sources != null && sources.length > 0);
        for (File source : sources) {
            String name = source.getName().replace(".java", "");
            Check.holds(name + " is told of", page.contains("`" + name + "`"));
        }
    }

    /** Bears every call of the example on a new object: each answers what is written behind it. */
    private static void example(List<String> lines) throws ReflectiveOperationException {
        SampleDesk desk = new SampleDesk();
        Map<String, Integer> calls = new TreeMap<>();
        for (String line : lines) {
            Matcher call = CALL.matcher(line);
            if (call.matches()) {
                Check.same(line, answer(desk, call.group(1), call.group(2).split(", ")), call.group(3));
                calls.merge(call.group(1), 1, Integer::sum);
            } else {
                Check.holds("no call without an answer: " + line, !line.startsWith("desk."));
            }
        }
        for (Method method : SampleDesk.class.getDeclaredMethods()) {
            boolean isOfTheFace = Modifier.isPublic(method.getModifiers());
            Check.holds("the example has " + method.getName(), !isOfTheFace || calls.containsKey(method.getName()));
        }
    }

    private static String answer(SampleDesk desk, String name, String[] numbers) throws ReflectiveOperationException {
        Class<?>[] types = new Class<?>[numbers.length];
        Object[] given = new Object[numbers.length];
        for (int i = 0; i < numbers.length; i++) {
            types[i] = int.class;
            given[i] = Long.decode(numbers[i]).intValue();
        }
        try {
            return String.valueOf(SampleDesk.class.getMethod(name, types).invoke(desk, given));
        } catch (InvocationTargetException e) {
            return "throws." + e.getCause().getClass().getSimpleName();
        }
    }
}
