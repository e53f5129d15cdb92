import java.io.File;
import java.io.IOException;
import java.nio.file.Files;
import java.nio.file.Path;
import java.util.regex.Matcher;
import java.util.regex.Pattern;

/** README.md as it stands: its calls answer what it says. It runs in the project's folder, as .ci/run does. */
final class ReadmeTest {
    private static final Pattern CALL = Pattern.compile("x\\.(\\w+)\\((.*?)\\); *// (-?\\d+): .*");

    public static void main(String[] args) throws IOException {
        String text = Files.readString(Path.of("README.md"));
        example(text.substring(text.indexOf("```java\n"), text.lastIndexOf("```")));
        table(text);
        Checks.finish();
    }

    private static void example(String code) {
        Hymnwright x = new Hymnwright();
        int calls = 0;
        for (String line : code.split("\n")) {
            Matcher told = CALL.matcher(line);
            if (told.matches()) {
                calls++;
                Call call = new Call(told.group(1), arguments(told.group(2)));
                Checks.due("README.md: " + line, Integer.parseInt(told.group(3)), call.on(x));
            } else {
                Checks.due("README.md, a call without an answer: " + line, false, line.startsWith("x."));
            }
        }
        Checks.due("README.md shows calls", true, calls >= 10);
    }

    private static int[] arguments(String list) {
        String[] words = list.split(", ");
        int[] values = new int[words.length];
        for (int i = 0; i < words.length; i++) {
            values[i] = value(words[i]);
        }
        return values;
    }

    private static int value(String word) {
        switch (word) {
            case "true": return 1;
            case "false": return 0;
            case "Hymnwright.SUNDAY": return Hymnwright.SUNDAY;
            case "Hymnwright.NONE": return Hymnwright.NONE;
            default: return Integer.parseInt(word);
        }
    }

    private static void table(String text) {
        for (String file : new File("src/test/java").list()) {
            String name = file.replace(".java", "");
            Checks.due("README.md names " + name, true, text.contains("`" + name + "`"));
        }
        Matcher row = Pattern.compile("\\| `(\\w+)` \\|").matcher(text);
        while (row.find()) {
            boolean is = new File("src/test/java/" + row.group(1) + ".java").exists();
            Checks.due("README.md names a test that there is: " + row.group(1), true, is);
        }
    }
}
