import java.io.IOException;
import java.nio.file.Files;
import java.nio.file.Path;
import java.util.List;

/** Words of the source that LANGUAGE.md rules out. It runs in the project's folder, as .ci/run does. */
final class LanguageTest {
    private static final String[] RULED_OUT = {
        "->", "::", "catch", "finally", "synchronized", "assert", "Exact", "package ", "protected ", "import static",
        "getMessage", "System.out", "System.nano", "System.current", "System.getenv", "Random", "Thread", "static {",
        "hashCode", "toString", ".format", "Objects", "HashMap", "@", "long ", "\" +", "+ \""};
    private static final int MOST_LINES_OF_A_METHOD = 60;

    public static void main(String[] args) throws IOException {
        List<String> lines = Files.readAllLines(Path.of("src/main/java/Hymnwright.java"));
        int start = 0;
        for (int i = 0; i < lines.size(); i++) {
            String line = lines.get(i);
            String code = withoutComment(line);
            for (String word : RULED_OUT) {
                Checks.due("line " + (i + 1) + " has " + word, false, code.contains(word));
            }
            if (code.startsWith("import ")) {
                boolean isListed = code.equals("import java.util.ArrayList;") || code.equals("import java.util.Arrays;");
                Checks.due("line " + (i + 1) + " imports what is listed", true, isListed);
            }
            if (code.isBlank()) {
                start = i;
            }
            Checks.due("line " + (i + 1) + " is in a short method", true, i - start <= MOST_LINES_OF_A_METHOD);
        }
        Checks.finish();
    }

    private static String withoutComment(String line) {
        String code = line.strip();
        if (code.startsWith("/**") || code.startsWith("*")) {
            return "x";
        }
        int comment = code.indexOf("//");
        return comment < 0 ? code : code.substring(0, comment) + "x";
    }
}
