import java.io.IOException;
import java.lang.reflect.InvocationTargetException;
import java.lang.reflect.Method;
import java.lang.reflect.Modifier;
import java.nio.file.Files;
import java.nio.file.Path;
import java.util.ArrayList;
import java.util.List;
import java.util.regex.Matcher;
import java.util.regex.Pattern;
import java.util.stream.Stream;

/** README.md: each answer of its example is the one that the class gives, and it names every call and every test. */
public final class ReadmeTest extends Checks {
    private static final Path README = Path.of("README.md");
    private static final Path TESTS = Path.of("src/test/java");
    private static final Pattern CALL = Pattern.compile("sheet\\.(\\w+)\\(([^)]*)\\);\\s*// (-?\\d+|true|false)\\b.*");
    private static final Pattern TEXT = Pattern.compile("for \\(char c : \"(.*)\"\\.toCharArray\\(\\)\\) \\{");
    private static final List<String> BESIDE = List.of("SharedSheet sheet = new SharedSheet();", "", "}",
            "sheet.type(c);                // the text from which setFormula reads");

    private static void example(String readme) throws ReflectiveOperationException {
        about("README.md, Use");
        SharedSheet sheet = new SharedSheet();
        int calls = 0;
        for (String line : between(readme, "```java\n", "```").split("\n")) {
            String code = line.strip();
            Matcher call = CALL.matcher(code);
            Matcher text = TEXT.matcher(code);
            if (call.matches()) {
                dueTrue(code, answer(sheet, call.group(1), call.group(2)).equals(call.group(3)));
                calls++;
            } else if (text.matches()) {
                text(sheet, text.group(1));
            } else {
                dueTrue("known to this test: " + code, BESIDE.contains(code));
            }
        }
        dueTrue("the example has calls", calls > 0);
    }

    private static String between(String text, String start, String end) {
        int from = text.indexOf(start);
        int to = from < 0 ? -1 : text.indexOf(end, from + start.length());
        return to < 0 ? "" : text.substring(from + start.length(), to);
    }

    private static String answer(SharedSheet sheet, String name, String list) throws ReflectiveOperationException {
        List<Object> arguments = new ArrayList<>();
        for (String one : list.isEmpty() ? new String[0] : list.split(", ")) {
            boolean isTruth = one.equals("true") || one.equals("false");
            arguments.add(isTruth ? (Object) Boolean.valueOf(one) : (Object) Integer.valueOf(one));
        }
        for (Method method : SharedSheet.class.getMethods()) {
            if (method.getName().equals(name)) {
                try {
                    return String.valueOf(method.invoke(sheet, arguments.toArray()));
                } catch (InvocationTargetException e) {
                    return "it throws " + e.getCause();
                }
            }
        }
        return "no such call";
    }

    private static void names(String readme) throws IOException {
        about("README.md");
        for (Method method : SharedSheet.class.getDeclaredMethods()) {
            if (Modifier.isPublic(method.getModifiers())) {
                dueTrue("it names " + method.getName(), readme.contains("`" + method.getName() + "`"));
            }
        }
        try (Stream<Path> tests = Files.list(TESTS)) {
            for (Path test : tests.toList()) {
                String name = test.getFileName().toString().replace(".java", "");
                dueTrue("it names " + name, readme.contains("`" + name + "`"));
            }
        }
    }

    public static void main(String[] args) throws IOException, ReflectiveOperationException {
        String readme = Files.readString(README);
        example(readme);
        names(readme);
        finish("README.md");
    }
}
