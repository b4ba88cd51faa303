import java.io.IOException;
import java.lang.reflect.Constructor;
import java.lang.reflect.Field;
import java.lang.reflect.Method;
import java.lang.reflect.Modifier;
import java.nio.file.Files;
import java.nio.file.Path;
import java.util.ArrayList;
import java.util.HashMap;
import java.util.HashSet;
import java.util.List;
import java.util.Map;
import java.util.Set;
import java.util.TreeSet;
import java.util.regex.Matcher;
import java.util.regex.Pattern;

/** The class has the document's face and nothing else that can be seen, and nothing that LANGUAGE.md leaves out. */
public final class FaceTest {
    private static final String[] FORBIDDEN = {"\\btry\\b", "\\bcatch\\b", "\\bfinally\\b", "\\bsynchronized\\b",
        "\\bassert\\b", "->", "::", "\\bstatic \\{", "\\brecord\\b", "\\binstanceof\\b", "Exact\\b", "\\bgetMessage\\b",
        "\\bhashCode\\b", "\\bSystem\\.(?!arraycopy)", "\"\\s*\\+", "\\+\\s*\"", "\\bString\\.format\\b",
        "[^\\x00-\\x7f]", "\\bprotected\\b", "\\bvolatile\\b", "\\bnative\\b"};

    private static final Pattern METHOD = Pattern.compile(
        "(?: {4}| {8})(?! )(?:[\\w\\[\\]]+ )*[\\w\\[\\]]+ (\\w+)\\((?!.*;$)");
    private static final Pattern CALL = Pattern.compile("(?<!new )\\b([a-z]\\w*)\\(");

    public static void main(String[] args) throws IOException {
        methodsAreTheDocuments();
        nothingElseIsSeen();
        classesInside();
        source(args.length > 0 ? args[0] : "src/main/java/HorizonExchange.java");
        Check.end();
    }

    private static void methodsAreTheDocuments() throws IOException {
        Set<String> want = new TreeSet<>();
        for (String line : Files.readAllLines(Path.of("../shared/DOC.md"))) {
            if (line.startsWith("    public ") && line.endsWith(";")) {
                want.add(line.trim().replace(";", "").replaceAll("\\b(int|char) \\w+(?=[,)])", "$1"));
            }
        }
        Set<String> got = new TreeSet<>();
        for (Constructor<?> constructor : HorizonExchange.class.getDeclaredConstructors()) {
            got.add("public " + constructor.getName() + "()");
            Check.same("public constructor", Modifier.toString(constructor.getModifiers()), "public");
            Check.same("constructor without parameters", constructor.getParameterCount(), 0);
        }
        for (Method method : HorizonExchange.class.getDeclaredMethods()) {
            if (!Modifier.isPrivate(method.getModifiers())) {
                got.add(signature(method));
            }
        }
        Check.same("52 promises", want.size(), 52);
        Check.same("the face", got, want);
    }

    private static String signature(Method method) {
        String text = Modifier.toString(method.getModifiers()) + " " + method.getReturnType().getSimpleName() + " "
            + method.getName() + "(" + names(method.getParameterTypes()) + ")";
        Class<?>[] thrown = method.getExceptionTypes();
        return thrown.length == 0 ? text : text + " throws " + names(thrown);
    }

    private static String names(Class<?>[] types) {
        List<String> names = new ArrayList<>();
        for (Class<?> type : types) {
            names.add(type.getSimpleName());
        }
        return String.join(", ", names);
    }

    private static void nothingElseIsSeen() {
        Check.same("public and final", Modifier.toString(HorizonExchange.class.getModifiers()), "public final");
        for (Field field : HorizonExchange.class.getDeclaredFields()) {
            Check.same("private " + field.getName(), Modifier.isPrivate(field.getModifiers()), true);
        }
        Set<String> open = new HashSet<>();
        for (Method method : HorizonExchange.class.getMethods()) {
            open.add(method.getName());
        }
        for (Class<?> inside : classes()) {
            for (Method method : inside.getDeclaredMethods()) {
                boolean hides = Modifier.isPrivate(method.getModifiers()) && open.contains(method.getName());
                Check.same("no private " + method.getName(), hides, false);
                Check.same("at most seven parameters", method.getParameterCount() <= 7, true);
            }
        }
    }

    private static List<Class<?>> classes() {
        List<Class<?>> all = new ArrayList<>(List.of(HorizonExchange.class.getDeclaredClasses()));
        all.add(HorizonExchange.class);
        return all;
    }

    private static void classesInside() {
        Check.same("at most twelve classes", classes().size() <= 12, true);
        for (Class<?> inside : HorizonExchange.class.getDeclaredClasses()) {
            Check.same("static " + inside.getName(), Modifier.isStatic(inside.getModifiers()), true);
            Check.same("private " + inside.getName(), Modifier.isPrivate(inside.getModifiers()), true);
        }
        for (Class<?> each : classes()) {
            int fields = 0;
            for (Field field : each.getDeclaredFields()) {
                boolean isStatic = Modifier.isStatic(field.getModifiers());
                Check.same("final " + field.getName(), !isStatic || Modifier.isFinal(field.getModifiers()), true);
                fields += isStatic ? 0 : 1;
            }
            Check.same("some twenty fields in " + each.getName(), fields <= 20, true);
        }
    }

    private static void source(String file) throws IOException {
        List<String> lines = Files.readAllLines(Path.of(file));
        for (String line : lines) {
            boolean comment = line.trim().matches("(\\*|/\\*|//).*");
            for (String pattern : FORBIDDEN) {
                boolean found = !comment && Pattern.compile(pattern).matcher(line).find();
                Check.same("nothing like " + pattern + " in: " + line, found, false);
            }
            if (line.startsWith("import ")) {
                Check.same("the import", line, "import java.util.NoSuchElementException;");
            }
        }
        lengths(lines);
        depths(lines);
    }

    /** Calls that are no recursion go at most eight deep, the call of the face counted as the first. */
    private static void depths(List<String> lines) {
        Map<String, Set<String>> calls = new HashMap<>();
        String method = "";
        for (String line : lines) {
            Matcher start = METHOD.matcher(line);
            if (start.lookingAt()) {
                method = start.group(1);
                calls.putIfAbsent(method, new HashSet<>());
            } else if (!line.trim().matches("(\\*|/\\*|//).*")) {
                Matcher call = CALL.matcher(line);
                while (call.find()) {
                    calls.computeIfAbsent(method, name -> new HashSet<>()).add(call.group(1));
                }
            }
        }
        Check.same("methods found", calls.containsKey("execute") && calls.containsKey("positionWithout"), true);
        for (String name : calls.keySet()) {
            Check.same("at most eight deep from " + name, depth(calls, name, new ArrayList<>()) <= 8, true);
        }
    }

    private static int depth(Map<String, Set<String>> calls, String name, List<String> open) {
        int most = 0;
        open.add(name);
        for (String next : calls.get(name)) {
            if (calls.containsKey(next) && !open.contains(next)) {
                most = Math.max(most, depth(calls, next, open));
            }
        }
        open.remove(open.size() - 1);
        return most + 1;
    }

    /** Methods stand at one or two steps to the right, and end with a brace there. */
    private static void lengths(List<String> lines) {
        int start = 0;
        for (int index = 0; index < lines.size(); index++) {
            String line = lines.get(index);
            if (line.matches(" {4}( {4})?[a-z][^=;]*\\(.*")) {
                start = index;
            } else if (line.matches(" {4}( {4})?\\}")) {
                Check.same("some sixty lines up to line " + (index + 1),
                    index - start <= 60 || !lines.get(start).contains("("), true);
            }
        }
    }
}
