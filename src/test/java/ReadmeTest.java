import java.lang.reflect.Method;
import java.lang.reflect.Modifier;
import java.nio.file.Files;
import java.nio.file.Path;
import java.util.List;
import java.util.stream.Collectors;
import java.util.stream.Stream;

/** README.md: its example and its text answer as it says; it names every call and every test. */
public final class ReadmeTest {
    private static final Check CHECK = new Check("ReadmeTest");

    public static void main(String[] args) throws Exception {
        String page = Files.readString(Path.of("README.md"));
        example();
        textOfAField(page);
        namesEveryCall(page);
        namesEveryTest(page);
        CHECK.end();
    }

    private static void example() {
        PostRounders x = new PostRounders();
        CHECK.due("README: field(0)", x.field(0), 0);
        CHECK.due("README: batter(4, 5)", x.batter(4, 5), 0);
        CHECK.due("README: batter(2, 3)", x.batter(2, 3), 1);
        CHECK.due("README: hits(9)", x.hits(9), 2);
        CHECK.due("README: mean(2)", x.mean(2), 1);
        CHECK.due("README: part(0)", x.part(0), 261);
        CHECK.due("README: part(1)", x.part(1), 100);
        CHECK.due("README: undo()", x.undo(), 0);
        CHECK.due("README: count(4)", x.count(4), 0);
    }

    private static void textOfAField(String page) {
        String text = "field 0;batter 4 5;batter 2 3;ball 9 5;";
        CHECK.that("README: it tells the text " + text, page.contains("`" + text + "`"));
        PostRounders x = new PostRounders();
        CHECK.due("README: read()", Check.read(x, text), 4);
        CHECK.due("README: count(5)", x.count(5), 2);
        CHECK.due("README: count(6)", x.count(6), 2);
    }

    /** A row of the table for each call, with as many arguments as it takes. */
    private static void namesEveryCall(String page) {
        List<String> lines = page.lines().collect(Collectors.toList());
        for (Method m : PostRounders.class.getDeclaredMethods()) {
            if (Modifier.isPublic(m.getModifiers())) {
                String given = m.getParameterCount() == 0 ? "" : "\\w+(, \\w+){" + (m.getParameterCount() - 1) + "}";
                String row = "\\| `" + m.getName() + "\\(" + given + "\\)` \\| .+ \\|";
                CHECK.due("README: rows for " + m.getName(), lines.stream().filter(l -> l.matches(row)).count(), 1);
            }
        }
    }

    private static void namesEveryTest(String page) throws Exception {
        try (Stream<Path> files = Files.list(Path.of("src/test/java"))) {
            for (Path file : files.collect(Collectors.toList())) {
                String name = file.getFileName().toString().replace(".java", "");
                String sign = name.endsWith("Test") ? "| " + name + " |" : "`" + name + "`";
                CHECK.that("README: it names " + name, page.contains(sign));
            }
        }
    }
}
