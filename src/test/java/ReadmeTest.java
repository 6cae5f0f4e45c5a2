import java.io.IOException;
import java.nio.file.Files;
import java.nio.file.Path;
import java.util.ArrayList;
import java.util.List;

/** The example of README.md: its lines are the ones made here, and answer as told beside them. */
public final class ReadmeTest {
    private static final Due due = new Due();
    private static final List<String> example = new ArrayList<>();
    private static final PageRows rows = new PageRows(2, 4);
    private static int next;

    public static void main(String[] args) throws IOException {
        readExample();
        line("PageRows rows = new PageRows(2, 4);");
        line("rows.table(0, 5 * 256 + 1);", rows.table(0, 5 * 256 + 1), 0);
        line("rows.table(5 * 16 + 3, 77 * 256 + 1 + 2);",
                rows.table(5 * 16 + 3, 77 * 256 + 1 + 2), 0);
        line("rows.walk(0x0342, 0);", rows.walk(0x0342, 0), 0);
        line("rows.to();", rows.to(), 77 * 256 + 0x42);
        line("rows.walk(0x0342, 1);", rows.walk(0x0342, 1), 3);
        line("rows.level();", rows.level(), 2);
        line("rows.table(5 * 16 + 3, 0);", rows.table(5 * 16 + 3, 0), 77 * 256 + 64 + 1 + 2);
        line("rows.walk(0x0355, 0);", rows.walk(0x0355, 0), 0);
        line("rows.stale(0);", rows.stale(0), 1);
        line("rows.flush(2, 0x0342);", rows.flush(2, 0x0342), 1);
        line("rows.plain(0x0342, 0);", rows.plain(0x0342, 0), -2);
        due.same("lines of the example", example.size(), next);
        due.end();
    }

    /** The README's one block of Java, without what is told beside the lines. */
    private static void readExample() throws IOException {
        boolean inside = false;
        for (String text : Files.readAllLines(Path.of("README.md"))) {
            if (text.startsWith("```")) {
                inside = text.equals("```java");
            } else if (inside) {
                example.add(text.replaceAll(" *//.*", ""));
            }
        }
    }

    private static void line(String text) {
        due.same("line " + next, next < example.size() ? example.get(next) : "none", text);
        next++;
    }

    private static void line(String text, long got, long want) {
        line(text);
        due.same(text, got, want);
    }
}
