import java.io.File;
import java.io.IOException;
import java.lang.reflect.Method;
import java.lang.reflect.Modifier;
import java.nio.file.Files;
import java.nio.file.Path;
import java.util.ArrayList;
import java.util.List;
import java.util.regex.Matcher;
import java.util.regex.Pattern;

/** What README.md tells of the class: the answers of its examples, its table of calls, its table of tests. */
public final class ReadmeTest {
    private static final Checks CHECKS = new Checks();
    private static final Pattern BLOCK = Pattern.compile("(?s)```java\n(.*?)```");
    private static final Pattern EXAMPLE = Pattern.compile("cell\\.(\\w+)\\(([^)]*)\\);\\s*// (-?\\d+): .*");

    private ReadmeTest() {
    }

    public static void main(String[] args) throws IOException, ReflectiveOperationException {
        Path root = Path.of(System.getProperty("root", "."));
        String text = Files.readString(root.resolve("README.md"));
        examples(text);
        calls(text);
        tests(text, root.resolve("src/test/java").toFile());
        CHECKS.finish();
    }

    /** The blocks go on with one another, so one object answers all. */
    private static void examples(String text) throws ReflectiveOperationException {
        WirelessCell cell = new WirelessCell();
        int examples = 0;
        for (String line : linesOfBlocks(text)) {
            Matcher example = EXAMPLE.matcher(line);
            if (example.matches()) {
                int due = Integer.parseInt(example.group(3));
                CHECKS.due("README: " + line, answer(cell, example.group(1), example.group(2)), due);
                examples++;
            } else {
                CHECKS.due("README: an example that can be tested: " + line,
                        line.equals("WirelessCell cell = new WirelessCell();") ? 1 : 0, 1);
            }
        }
        CHECKS.holds("README: examples", examples > 20);
    }

    private static List<String> linesOfBlocks(String text) {
        List<String> lines = new ArrayList<>();
        Matcher blocks = BLOCK.matcher(text);
        while (blocks.find()) {
            lines.addAll(blocks.group(1).lines().toList());
        }
        return lines;
    }

    private static int answer(WirelessCell cell, String name, String list) throws ReflectiveOperationException {
        String[] told = list.isEmpty() ? new String[0] : list.split(", ");
        for (Method method : WirelessCell.class.getMethods()) {
            if (method.getName().equals(name) && method.getParameterCount() == told.length) {
                Object[] values = new Object[told.length];
                for (int i = 0; i < told.length; i++) {
                    boolean isLong = method.getParameterTypes()[i] == long.class;
                    values[i] = isLong ? (Object) Long.valueOf(told[i]) : (Object) Integer.valueOf(told[i]);
                }
                return (Integer) method.invoke(cell, values);
            }
        }
        CHECKS.holds("README: there is a call " + name + "(" + list + ")", false);
        return WirelessCell.NONE;
    }

    private static void calls(String text) {
        for (Method method : WirelessCell.class.getDeclaredMethods()) {
            if (Modifier.isPublic(method.getModifiers())) {
                int commas = Math.max(method.getParameterCount() - 1, 0);
                String row = "\\| `" + method.getName() + "\\((\\w+, ){" + commas + "}\\w*\\)` \\|";
                CHECKS.holds("README: a row for " + method, Pattern.compile(row).matcher(text).find());
            }
        }
    }

    private static void tests(String text, File directory) {
        File[] files = directory.listFiles((where, name) -> name.endsWith("Test.java"));
        CHECKS.holds("tests at " + directory, files != null && files.length > 0);
        if (files == null) {
            return;
        }
        for (File file : files) {
            String name = file.getName().replace(".java", "");
            CHECKS.holds("README: a row for " + name, text.contains("| `" + name + "` |"));
        }
    }
}
