import java.io.IOException;
import java.lang.reflect.Method;
import java.nio.file.Files;
import java.nio.file.Path;
import java.util.HashMap;
import java.util.List;
import java.util.Map;
import java.util.regex.Matcher;
import java.util.regex.Pattern;

/**
 * What README.md says: its example is run line by line, and a number that begins a line's comment is
 * the answer that is due; its tables have each call of the document's face, each STATUS and each test.
 */
public final class ReadmeTest {
    private static final Path README = Path.of("README.md");
    private static final Path DOCUMENT = Path.of("../shared/DOC.md");
    private static final Path TESTS = Path.of("src/test/java");
    private static final Pattern LINE =
        Pattern.compile("(?:int (\\w+) = )?stock\\.(\\w+)\\(([\\w, -]*)\\);\\s*(?:// (.*))?");
    private static final Pattern CALL = Pattern.compile("public int (\\w+\\([^)]*\\));");
    private static final Pattern NUMBER = Pattern.compile("(-?\\d+)(:.*)?");
    private static final int LAST_STATUS = 13;

    public static void main(String[] args) throws IOException {
        String text = Files.readString(README);
        runExample(text.substring(text.indexOf("```java\n") + 8).split("```", 2)[0].split("\n"));
        Matcher call = CALL.matcher(Files.readString(DOCUMENT));
        while (call.find()) {
            String told = "`" + call.group(1).replace("int ", "") + "`";
            Due.answer("README.md tells " + told, count(text.split("### Refused")[0], told), 1);
        }
        for (int status = 0; status <= LAST_STATUS; status++) {
            Due.answer("README.md tells STATUS " + status, count(text, "\n| " + status + " |"), 1);
        }
        try (var files = Files.list(TESTS)) {
            List<String> names = files.map(file -> file.getFileName().toString().replace(".java", "")).toList();
            for (String name : names) {
                Due.answer("README.md names " + name, text.contains("`" + name + "`") ? 1 : 0, 1);
            }
        }
        Due.end();
    }

    private static Map<String, Method> face() {
        Map<String, Method> face = new HashMap<>();
        for (Method method : CostumeStock.class.getMethods()) {
            if (method.getDeclaringClass() == CostumeStock.class) {
                face.put(method.getName(), method);
            }
        }
        return face;
    }

    private static int count(String text, String part) {
        return text.split(Pattern.quote(part), -1).length - 1;
    }

    private static void runExample(String[] lines) {
        CostumeStock stock = new CostumeStock();
        Map<String, Integer> names = new HashMap<>();
        int answers = 0;
        Due.answer("the example's first line makes an object",
            lines[0].equals("CostumeStock stock = new CostumeStock();") ? 1 : 0, 1);
        for (int k = 1; k < lines.length; k++) {
            Matcher line = LINE.matcher(lines[k]);
            if (!line.matches()) {
                Due.answer("the example's line can be run: " + lines[k], 0, 1);
                continue;
            }
            int got = call(stock, line.group(2), line.group(3), names);
            if (line.group(1) != null) {
                names.put(line.group(1), got);
            }
            Matcher due = NUMBER.matcher(line.group(4) == null ? "" : line.group(4));
            if (due.matches()) {
                answers++;
                Due.answer("README.md: " + lines[k], got, Integer.parseInt(due.group(1)));
            }
        }
        Due.answer("the example tells answers", answers > 0 ? 1 : 0, 1);
    }

    private static int call(CostumeStock stock, String name, String list, Map<String, Integer> names) {
        String[] told = list.isEmpty() ? new String[0] : list.split(", ");
        Object[] values = new Object[told.length];
        for (int k = 0; k < told.length; k++) {
            values[k] = names.containsKey(told[k]) ? names.get(told[k]) : (Integer) Integer.parseInt(told[k]);
        }
        try {
            return (Integer) face().get(name).invoke(stock, values);
        } catch (ReflectiveOperationException e) {
            throw new IllegalStateException(name, e);
        }
    }
}
