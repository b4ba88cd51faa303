import java.io.IOException;
import java.lang.reflect.InvocationTargetException;
import java.lang.reflect.Method;
import java.nio.file.DirectoryStream;
import java.nio.file.Files;
import java.nio.file.Path;
import java.util.ArrayList;
import java.util.List;
import java.util.Set;
import java.util.TreeSet;
import java.util.regex.Matcher;
import java.util.regex.Pattern;

/** What README.md tells is so: its examples answer what stands behind them, and its tables are whole. */
public final class ReadmeTest {
    private static final Pattern CALL = Pattern.compile("x\\.(\\w+)\\(([-\\d, ]*)\\); +// ([^:]+)(: .+)?");
    private static final Pattern TYPED = Pattern.compile(
        "for \\(char c : \"(.*)\"\\.toCharArray\\(\\)\\) x\\.type\\(c\\);");
    private static final Pattern COMMAND = Pattern.compile("\\| `([a-z]+)( [\\d ]+)?` \\| `(\\w+)\\(([\\d, ]*)\\)` \\|");
    private static final Pattern TEST = Pattern.compile("\\| `(\\w+Test)` \\| .+ \\|");

    public static void main(String[] args) throws IOException, ReflectiveOperationException {
        List<String> page = Files.readAllLines(Path.of("README.md"));
        examples(page);
        commands(page);
        tests(page);
        Check.end();
    }

    /** The examples follow one another on one exchange. */
    private static void examples(List<String> page) throws ReflectiveOperationException {
        HorizonExchange x = null;
        boolean inside = false;
        int lines = 0;
        for (String line : page) {
            if (line.startsWith("```")) {
                inside = line.equals("```java");
            } else if (inside && line.equals("HorizonExchange x = new HorizonExchange();")) {
                x = new HorizonExchange();
            } else if (inside) {
                example(x, line);
                lines++;
            }
        }
        Check.same("examples found", lines > 30, true);
    }

    private static void example(HorizonExchange x, String line) throws ReflectiveOperationException {
        Matcher typed = TYPED.matcher(line);
        Matcher call = CALL.matcher(line);
        if (typed.matches()) {
            Check.type(x, typed.group(1));
        } else if (call.matches()) {
            Check.same(line, answer(x, call.group(1), call.group(2)), call.group(3));
        } else {
            Check.same(line, "no call and its answer", "x.name(numbers); // answer: why");
        }
    }

    private static String answer(HorizonExchange x, String name, String numbers) throws ReflectiveOperationException {
        List<Object> args = new ArrayList<>();
        for (String number : numbers.isEmpty() ? new String[0] : numbers.split(", ")) {
            args.add(Integer.parseInt(number));
        }
        for (Method method : HorizonExchange.class.getMethods()) {
            if (method.getName().equals(name) && method.getParameterCount() == args.size()) {
                try {
                    return String.valueOf(method.invoke(x, args.toArray()));
                } catch (InvocationTargetException e) {
                    return "throws " + e.getCause().getClass().getSimpleName();
                }
            }
        }
        return "there is no such call";
    }

    /** A command does what the call beside it does. */
    private static void commands(List<String> page) throws ReflectiveOperationException {
        Set<String> words = new TreeSet<>();
        for (String line : page) {
            Matcher row = COMMAND.matcher(line);
            if (!row.matches()) {
                continue;
            }
            String numbers = row.group(2) == null ? "" : row.group(2);
            Check.same("the same numbers: " + line, numbers.trim(), row.group(4).replace(",", ""));
            HorizonExchange told = Places.some();
            HorizonExchange typed = Places.some();
            String before = Look.state(Places.some());
            Check.same(line + " is allowed", answer(told, row.group(3), row.group(4)).startsWith("t"), false);
            Check.same(line + " is valid", Look.answer(() -> Check.run(typed, row.group(1) + numbers)), 1);
            String after = Look.state(typed);
            Check.same(line, after, Look.state(told));
            Check.same(line + " does something", after.equals(before), false);
            words.add(row.group(1));
        }
        Check.same("the commands", words, "[dawn, draw, give, horizon, pay, quote, trade, trader]");
    }

    private static void tests(List<String> page) throws IOException {
        Set<String> named = new TreeSet<>();
        for (String line : page) {
            Matcher row = TEST.matcher(line);
            if (row.matches()) {
                named.add(row.group(1));
            }
        }
        Set<String> there = new TreeSet<>();
        try (DirectoryStream<Path> files = Files.newDirectoryStream(Path.of("src/test/java"), "*Test.java")) {
            for (Path file : files) {
                there.add(file.getFileName().toString().replace(".java", ""));
            }
        }
        Check.same("the tests", named, there);
    }
}
