import java.io.IOException;
import java.lang.reflect.Method;
import java.lang.reflect.Modifier;
import java.nio.file.DirectoryStream;
import java.nio.file.Files;
import java.nio.file.Path;
import java.util.ArrayList;
import java.util.List;

/** The README's examples stand here too, line by line, and answer as it tells; its tables have all calls and tests. */
public final class ReadmeTest {
    private static final Path README = Path.of("README.md");
    private static final Path TESTS = Path.of("src/test/java");

    public static void main(String[] args) throws IOException {
        theExampleAnswersAsTold();
        theExampleIsTheOneToldThere();
        everyCallIsToldThere();
        everyTestIsToldThere();
        Check.finish();
    }

    private static void theExampleAnswersAsTold() {
        LogRiver river = new LogRiver();
        int lower = river.reach(LogRiver.NONE, 3, 2, 100);  // to the sea, 3 cells of 2 logs each, jams below flow 100
        int upper = river.reach(lower, 2, 2, 0);            // flows into the lower one, never jams
        river.melt(upper, 300);                             // spring water, each hour
        river.dam(upper, 500);                              // at its end, with room for 500
        river.gate(upper, 300);                             // what it lets go, each hour
        river.boom(lower, 1 << 4, 10);                      // catches the logs of mark 4, with room for 10
        int order = river.order(lower, 4, 1, 1);            // the mill there saws 1 log of mark 4, of size 1 at least
        int law = tell(river, "bar size = 9; toll 10 * size + hour;", 0);
        int log = river.cut(4, 2, 77);                      // mark 4, size 2, from stump 77
        int let = river.let(log, upper, 0);                 // 0: it floats; 1 to 3: it doesn't
        int hour = river.hours(2);                          // 2: which hour it is then
        int where = river.log(log, 3);                      // 3: it is sawn
        int stump = river.log(river.board(1), 2);           // 77: board 1 led back to its stump
        long paid = river.paid(4);                          // 21: the law's toll, as it came into the heap in hour 1

        Check.due("the law", law, 0);
        Check.due("let", let, 0);
        Check.due("hours", hour, 2);
        Check.due("where the log is", where, 3);
        Check.due("the board's stump", stump, 77);
        Check.due("what the mark paid", paid, 21);
        Check.due("what the order wants", river.wants(order), 0);
        Check.due("a log that the law bars", river.let(river.cut(4, 9, 78), upper, 0), 2);
    }

    static int tell(LogRiver river, String text, int day) {
        for (int i = 0; i < text.length(); i += 20) {
            river.feed(four(text, i), four(text, i + 4), four(text, i + 8), four(text, i + 12), four(text, i + 16));
        }
        return river.law(text.length(), day);
    }

    static int four(String text, int at) {
        int word = 0;
        for (int i = at; i < at + 4; i++) {
            word = word << 8 | (i < text.length() ? text.charAt(i) : ' ');
        }
        return word;
    }

    private static void theExampleIsTheOneToldThere() throws IOException {
        List<String> told = javaLines(README);
        List<String> here = new ArrayList<>();
        for (String line : Files.readAllLines(TESTS.resolve("ReadmeTest.java"))) {
            here.add(line.strip());
        }
        Check.due("the README has an example", told.isEmpty(), false);
        int from = 0;
        for (String line : told) {
            int at = here.subList(from, here.size()).indexOf(line);
            Check.due("the README's line stands in this test: " + line, at >= 0, true);
            from += Math.max(at, 0);
        }
    }

    private static List<String> javaLines(Path file) throws IOException {
        List<String> lines = new ArrayList<>();
        boolean isJava = false;
        for (String line : Files.readAllLines(file)) {
            if (line.startsWith("```")) {
                isJava = line.equals("```java");
            } else if (isJava) {
                lines.add(line.strip());
            }
        }
        return lines;
    }

    private static void everyCallIsToldThere() throws IOException {
        String readme = Files.readString(README);
        for (Method m : LogRiver.class.getDeclaredMethods()) {
            if (Modifier.isPublic(m.getModifiers())) {
                Check.due("the README tells of " + m.getName(), readme.contains("`" + m.getName() + "`"), true);
            }
        }
    }

    private static void everyTestIsToldThere() throws IOException {
        String readme = Files.readString(README);
        try (DirectoryStream<Path> files = Files.newDirectoryStream(TESTS, "*Test.java")) {
            for (Path file : files) {
                String name = file.getFileName().toString().replace(".java", "");
                Check.due("the README tells of " + name, readme.contains("| `" + name + "` |"), true);
            }
        }
    }
}
