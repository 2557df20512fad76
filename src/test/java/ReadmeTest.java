import java.io.IOException;
import java.lang.reflect.Method;
import java.lang.reflect.Modifier;
import java.nio.file.Files;
import java.nio.file.Path;
import java.util.List;
import java.util.Set;
import java.util.TreeSet;
import java.util.regex.Matcher;
import java.util.regex.Pattern;
import java.util.stream.Stream;

/** What README.md says is so: the answers of its example, the constants, the calls, the tests that it names. */
public final class ReadmeTest {
    private static final String README = "README.md";
    private static final Pattern CALL = Pattern.compile("x\\.(\\w+)\\((.*)\\);\\s*// (-?\\d+|[A-Z]+)(:.*)?");
    private static final Pattern CONSTANT = Pattern.compile("\\| `([A-Z]+)` \\| (-?\\d+) \\| .+ \\|");
    private static final Pattern CALL_ROW = Pattern.compile("\\| `(\\w+\\([a-z ,]*\\))` \\| .+ \\|.*\\|");
    private static final Pattern NAMED_TEST = Pattern.compile("`(\\w+Test)`");

    private static final Check C = new Check();

    public static void main(String[] args) throws IOException, ReflectiveOperationException {
        example();
        constants();
        calls();
        tests();
        C.end();
    }

    private static void example() throws IOException, ReflectiveOperationException {
        C.part("the example");
        List<String> lines = Texts.javaLines(README);
        C.due("it begins with a new object", lines.get(0).equals("NineNames x = new NineNames();"));
        NineNames x = new NineNames();
        Set<String> used = new TreeSet<>();
        for (String line : lines.subList(1, lines.size())) {
            Matcher call = CALL.matcher(line);
            C.due("a call with its answer: " + line, call.matches());
            if (call.matches()) {
                used.add(call.group(1));
                C.due(line, answer(x, call.group(1), call.group(2)), number(call.group(3)));
            }
        }
        C.due("it uses every call", used.equals(publicNames()));
    }

    private static int answer(NineNames x, String name, String arguments) throws ReflectiveOperationException {
        String[] parts = arguments.isEmpty() ? new String[0] : arguments.split(", ");
        Object[] values = new Object[parts.length];
        for (int n = 0; n < parts.length; n++) {
            values[n] = value(parts[n]);
        }
        for (Method m : NineNames.class.getDeclaredMethods()) {
            if (m.getName().equals(name) && Modifier.isPublic(m.getModifiers())) {
                return (Integer) m.invoke(x, values);
            }
        }
        throw new IllegalArgumentException("there is no call " + name);
    }

    private static Object value(String text) {
        if (text.equals("true") || text.equals("false")) {
            return Boolean.valueOf(text);
        }
        return text.startsWith("'") ? Integer.valueOf(text.charAt(1)) : Integer.valueOf(text);
    }

    private static int number(String text) throws ReflectiveOperationException {
        boolean isNumber = text.charAt(0) == '-' || Character.isDigit(text.charAt(0));
        return isNumber ? Integer.parseInt(text) : NineNames.class.getField(text).getInt(null);
    }

    private static Set<String> publicNames() {
        Set<String> names = new TreeSet<>();
        for (Method m : NineNames.class.getDeclaredMethods()) {
            if (Modifier.isPublic(m.getModifiers())) {
                names.add(m.getName());
            }
        }
        return names;
    }

    private static void constants() throws IOException, ReflectiveOperationException {
        C.part("the constants");
        int rows = 0;
        for (String line : Texts.lines(README)) {
            Matcher row = CONSTANT.matcher(line);
            if (row.matches()) {
                rows++;
                C.due(row.group(1), Integer.parseInt(row.group(2)), NineNames.class.getField(row.group(1)).getInt(null));
            }
        }
        C.due("all of them", rows, NineNames.class.getFields().length);
    }

    private static void calls() throws IOException {
        C.part("the calls");
        Set<String> due = new TreeSet<>(Texts.methods(Texts.javaLines(Texts.DOCUMENT)));
        Set<String> rows = new TreeSet<>();
        for (String line : Texts.lines(README)) {
            Matcher row = CALL_ROW.matcher(line);
            if (row.matches()) {
                rows.add(row.group(1));
            }
        }
        C.due("they are " + rows, rows.equals(due));
    }

    private static void tests() throws IOException {
        C.part("the tests");
        Set<String> named = new TreeSet<>();
        for (String line : Texts.lines(README)) {
            Matcher name = NAMED_TEST.matcher(line);
            while (name.find()) {
                named.add(name.group(1) + ".java");
            }
        }
        Set<String> due = new TreeSet<>();
        try (Stream<Path> files = Files.list(Texts.ROOT.resolve("src/test/java"))) {
            files.map(file -> file.getFileName().toString()).filter(name -> name.endsWith("Test.java")).forEach(due::add);
        }
        C.due("they are " + named, named.equals(due));
    }
}
