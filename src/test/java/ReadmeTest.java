import java.io.IOException;
import java.lang.reflect.InvocationTargetException;
import java.lang.reflect.Method;
import java.lang.reflect.Modifier;
import java.nio.file.Files;
import java.nio.file.Path;
import java.util.ArrayList;
import java.util.List;
import java.util.Set;
import java.util.TreeSet;
import java.util.regex.Matcher;
import java.util.regex.Pattern;

/** README.md names each call as the class has it, and its example answers as it says. */
public final class ReadmeTest {
    private static final Pattern EXAMPLE =
            Pattern.compile("text\\.(\\w+)\\(([^)]*)\\); +// (throws \\w+|-?\\w+)(: .*)?");
    private static final Pattern ROW =
            Pattern.compile("\\| `(\\w+) (\\w+)\\(([^)]*)\\)` \\|.*\\|.*\\|([^|]*)\\|");
    private static final Pattern THROWN = Pattern.compile("`(\\w+Exception)`");

    private final CoauthorText text = new CoauthorText();
    private final Set<String> shown = new TreeSet<>();

    public static void main(String[] args) throws IOException {
        List<String> lines = Files.readAllLines(Path.of("README.md"));
        tables(lines);
        new ReadmeTest().example(lines);
        Check.end();
    }

    private static List<Method> calls() {
        List<Method> calls = new ArrayList<>();
        for (Method method : CoauthorText.class.getDeclaredMethods()) {
            if (Modifier.isPublic(method.getModifiers())) {
                calls.add(method);
            }
        }
        return calls;
    }

    private static int count(String arguments) {
        return arguments.isEmpty() ? 0 : arguments.split(",").length;
    }

    // ---- the tables

    private static void tables(List<String> lines) {
        Set<String> due = new TreeSet<>();
        for (Method call : calls()) {
            List<String> thrown = new ArrayList<>();
            for (Class<?> type : call.getExceptionTypes()) {
                thrown.add(type.getSimpleName());
            }
            due.add(told(call.getReturnType().getName(), call.getName(),
                    call.getParameterCount(), thrown));
        }
        Set<String> rows = new TreeSet<>();
        for (String line : lines) {
            Matcher row = ROW.matcher(line);
            if (row.matches()) {
                rows.add(told(row.group(1), row.group(2), count(row.group(3)),
                        thrownIn(row.group(4))));
            }
        }
        Check.told("the tables of README.md", due.toString(), rows.toString());
    }

    private static List<String> thrownIn(String cell) {
        List<String> thrown = new ArrayList<>();
        Matcher matcher = THROWN.matcher(cell);
        while (matcher.find()) {
            thrown.add(matcher.group(1));
        }
        return thrown;
    }

    private static String told(String type, String name, int arguments, List<String> thrown) {
        return type + " " + name + " of " + arguments + " throws " + thrown;
    }

    // ---- the example

    private void example(List<String> lines) {
        for (String line : lines) {
            if (line.startsWith("text.")) {
                exampleLine(line);
            }
        }
        Set<String> all = new TreeSet<>();
        for (Method call : calls()) {
            all.add(call.getName());
        }
        Check.told("the calls of the example", all.toString(), shown.toString());
    }

    private void exampleLine(String line) {
        Matcher matcher = EXAMPLE.matcher(line);
        Check.due(line + ": is a call and its answer", true, matcher.matches());
        if (matcher.matches()) {
            shown.add(matcher.group(1));
            Check.told(line, matcher.group(3), answer(matcher.group(1), matcher.group(2)));
        }
    }

    private String answer(String name, String arguments) {
        Object[] values = new Object[count(arguments)];
        for (int n = 0; n < values.length; n++) {
            values[n] = Integer.valueOf(arguments.split(",")[n].trim());
        }
        for (Method call : calls()) {
            if (call.getName().equals(name) && call.getParameterCount() == values.length) {
                return answer(call, values);
            }
        }
        return "no such call";
    }

    private String answer(Method call, Object[] values) {
        try {
            return String.valueOf(call.invoke(text, values));
        } catch (InvocationTargetException thrown) {
            return "throws " + thrown.getCause().getClass().getSimpleName();
        } catch (IllegalAccessException thrown) {
            return "is not to be called";
        }
    }
}
