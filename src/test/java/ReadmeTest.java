import java.io.IOException;
import java.lang.reflect.InvocationTargetException;
import java.lang.reflect.Method;
import java.lang.reflect.Modifier;
import java.nio.file.Files;
import java.nio.file.Path;
import java.util.List;
import java.util.Set;
import java.util.TreeSet;
import java.util.regex.Matcher;
import java.util.regex.Pattern;

/** README.md tells every call, and its examples answer what stands behind them. */
public final class ReadmeTest {
    private static final Pattern EXAMPLE =
        Pattern.compile("plc\\.(\\w+)\\((.*)\\); +// (throws \\w+|-?[0-9.]+)(:.*)?");

    public static void main(String[] args) throws IOException, IllegalAccessException {
        List<String> lines = Files.readAllLines(Path.of("README.md"));
        Set<String> shown = new TreeSet<>();
        LadderScan plc = new LadderScan();
        for (String line : lines) {
            if (line.startsWith("plc.")) {
                shown.add(makeExample(plc, line));
            }
        }
        Check.isTrue("an object of the examples is made", lines.contains("LadderScan plc = new LadderScan();"));
        Check.isTrue("told: LadderScan()", isTold(lines, "LadderScan()"));
        for (Method method : LadderScan.class.getDeclaredMethods()) {
            if (Modifier.isPublic(method.getModifiers())) {
                Check.isTrue("shown: " + method.getName(), shown.contains(method.getName()));
                tellsFully(lines, method);
            }
        }
        Check.end();
    }

    /** Answers the name of the method that it called. */
    private static String makeExample(LadderScan plc, String line) throws IllegalAccessException {
        Matcher example = EXAMPLE.matcher(line);
        Check.isTrue("an example with its answer: " + line, example.matches());
        if (!example.matches()) {
            return "";
        }
        String[] texts = example.group(2).isEmpty() ? new String[0] : example.group(2).split(", ");
        String got = call(plc, named(example.group(1)), texts);
        Check.isTrue(line + " answered " + got, got.equals(example.group(3)));
        return example.group(1);
    }

    private static Method named(String name) {
        for (Method method : LadderScan.class.getMethods()) {
            if (method.getName().equals(name)) {
                return method;
            }
        }
        throw new AssertionError("README.md calls " + name + ", which is not there");
    }

    private static String call(LadderScan plc, Method method, String[] texts) throws IllegalAccessException {
        Object[] values = new Object[texts.length];
        for (int i = 0; i < texts.length; i++) {
            if (method.getParameterTypes()[i] == int.class) {
                values[i] = Integer.valueOf(texts[i]);
            } else {
                values[i] = Double.valueOf(texts[i]);
            }
        }
        try {
            return String.valueOf(method.invoke(plc, values));
        } catch (InvocationTargetException thrown) {
            return "throws " + thrown.getCause().getClass().getSimpleName();
        }
    }

    /** The table has a row for the call, which names what it throws in the face's order, and nothing else. */
    private static void tellsFully(List<String> lines, Method method) {
        for (String line : lines) {
            if (line.startsWith("| `" + method.getName() + "(")) {
                Matcher name = Pattern.compile("`(\\w+Exception)`").matcher(line);
                StringBuilder told = new StringBuilder();
                while (name.find()) {
                    told.append(name.group(1)).append(' ');
                }
                StringBuilder due = new StringBuilder();
                for (Class<?> type : method.getExceptionTypes()) {
                    due.append(type.getSimpleName()).append(' ');
                }
                Check.isTrue(line + " throws " + due, due.toString().equals(told.toString()));
                Check.isTrue(line + " has " + method.getParameterCount() + " parameters",
                    parameters(line) == method.getParameterCount());
                return;
            }
        }
        Check.isTrue("told: " + method.getName(), false);
    }

    private static int parameters(String line) {
        String inside = line.substring(line.indexOf('(') + 1, line.indexOf(')'));
        return inside.isEmpty() ? 0 : inside.split(", ").length;
    }

    private static boolean isTold(List<String> lines, String call) {
        return lines.stream().anyMatch(line -> line.startsWith("| `" + call + "`"));
    }
}
