import java.io.IOException;
import java.lang.reflect.Field;
import java.lang.reflect.Method;
import java.lang.reflect.Modifier;
import java.nio.file.Files;
import java.nio.file.Path;
import java.util.Set;
import java.util.TreeSet;
import java.util.regex.Matcher;
import java.util.regex.Pattern;

/** README.md tells of each call and constant of the face, and its example answers as it says. */
public final class ReadmeTest {
    private static final Path PAGE = Path.of("README.md");
    private static final Pattern ROW = Pattern.compile("^\\| `(\\w+)\\(([^)]*)\\)` \\|", Pattern.MULTILINE);
    private static final Pattern CONSTANT = Pattern.compile("^\\| `([A-Z]+)` \\| (-\\d+) \\|", Pattern.MULTILINE);
    private static final Pattern EXAMPLE = Pattern.compile("^ford\\.(\\w+)\\(([^)]*)\\);\\s*// (-?\\d+)(:|$)", Pattern.MULTILINE);
    private static final Pattern ANY_EXAMPLE = Pattern.compile("^ford\\.", Pattern.MULTILINE);

    private static final Due DUE = new Due();

    private ReadmeTest() {
    }

    public static void main(String[] args) throws IOException, ReflectiveOperationException {
        String page = Files.readString(PAGE);
        checkRows(page);
        checkConstants(page);
        checkExample(page);
        checkTestsNamed(page);
        DUE.end();
    }

    private static Set<String> face() {
        Set<String> face = new TreeSet<>();
        for (Method method : FordWord.class.getDeclaredMethods()) {
            if (Modifier.isPublic(method.getModifiers())) {
                face.add(method.getName() + " " + method.getParameterCount());
            }
        }
        return face;
    }

    private static int many(String arguments) {
        return arguments.isEmpty() ? 0 : arguments.split(",").length;
    }

    private static void checkRows(String page) {
        Set<String> due = face();
        due.add("FordWord 0");
        Set<String> rows = new TreeSet<>();
        Matcher row = ROW.matcher(page);
        while (row.find()) {
            DUE.isTrue("one row of " + row.group(1), rows.add(row.group(1) + " " + many(row.group(2))));
        }
        DUE.isTrue("a row for each call: " + rows, rows.equals(due));
    }

    private static void checkConstants(String page) throws IllegalAccessException {
        Set<String> due = new TreeSet<>();
        for (Field field : FordWord.class.getDeclaredFields()) {
            if (Modifier.isPublic(field.getModifiers())) {
                due.add(field.getName() + " " + field.getInt(null));
            }
        }
        Set<String> rows = new TreeSet<>();
        Matcher row = CONSTANT.matcher(page);
        while (row.find()) {
            rows.add(row.group(1) + " " + row.group(2));
        }
        DUE.isTrue("a row for each constant: " + rows, rows.equals(due));
    }

    private static void checkExample(String page) throws ReflectiveOperationException {
        FordWord ford = new FordWord();
        Set<String> made = new TreeSet<>();
        int calls = 0;
        Matcher line = EXAMPLE.matcher(page);
        while (line.find()) {
            calls++;
            made.add(line.group(1) + " " + many(line.group(2)));
            int got = answer(ford, line.group(1), line.group(2));
            DUE.is(line.group(), got, Integer.parseInt(line.group(3)));
        }
        DUE.is("calls of the example that could be read", calls, ANY_EXAMPLE.matcher(page).results().count());
        DUE.isTrue("the example makes each call: " + made, made.equals(face()));
    }

    private static int answer(FordWord ford, String name, String arguments) throws ReflectiveOperationException {
        String[] texts = arguments.isEmpty() ? new String[0] : arguments.split(", ");
        for (Method method : FordWord.class.getDeclaredMethods()) {
            if (!method.getName().equals(name) || method.getParameterCount() != texts.length) {
                continue;
            }
            Object[] values = new Object[texts.length];
            for (int p = 0; p < texts.length; p++) {
                int value = number(texts[p]);
                boolean isLong = method.getParameterTypes()[p] == long.class;
                values[p] = isLong ? (Object) Long.valueOf(value) : (Object) Integer.valueOf(value);
            }
            return (Integer) method.invoke(ford, values);
        }
        throw new IllegalStateException("no call " + name + " of " + texts.length);
    }

    private static int number(String text) {
        if (text.equals("FordWord.NONE")) {
            return FordWord.NONE;
        }
        if (text.startsWith("'")) {
            return text.charAt(1);
        }
        return text.startsWith("0b") ? Integer.parseInt(text.substring(2), 2) : Integer.parseInt(text);
    }

    private static void checkTestsNamed(String page) throws IOException {
        try (var files = Files.list(Path.of("src/test/java"))) {
            for (Path file : files.toList()) {
                String name = file.getFileName().toString().replace(".java", "");
                DUE.isTrue("the page names " + name, page.contains("`" + name + "`"));
            }
        }
        DUE.isTrue("the page says how tests are run", page.contains("    .ci/run\n"));
    }
}
