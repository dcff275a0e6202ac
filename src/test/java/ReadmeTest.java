import java.io.IOException;
import java.lang.reflect.Method;
import java.lang.reflect.Modifier;
import java.nio.file.Files;
import java.nio.file.Path;
import java.util.ArrayList;
import java.util.List;
import java.util.TreeSet;
import java.util.regex.Matcher;
import java.util.regex.Pattern;
import java.util.stream.Stream;

/** README.md is true: its example runs and answers what it says, its tables name every call and every test. */
public final class ReadmeTest {
    private static final Check CHECK = new Check();
    private static final String TESTS = "src/test/java";
    private static final Pattern CALL_ROW = Pattern.compile("^\\| `(\\w+)\\(([^)]*)\\)` \\|", Pattern.MULTILINE);
    private static final Pattern TEST_ROW = Pattern.compile("^\\| `(\\w+Test)` \\|", Pattern.MULTILINE);

    public static void main(String[] args) throws IOException {
        String readme = Files.readString(Path.of("README.md"));
        theExampleIsTheOneBelow(readme);
        runTheExample(readme);
        everyCallHasARow(readme);
        everyTestHasARow(readme);
        CHECK.holds("how to run the tests", readme.contains("\n.ci/run\n"));
        CHECK.end();
    }

    /** Stands here once more, word for word, so that it is compiled and run. */
    private static void runTheExample(String readme) {
        // the example
        WallDamp wall = new WallDamp(3);             // three cells, 0 outside .. 2 inside
        wall.curve(0, 150, 10000);                   // material 0 holds 150 at most, and is then wholly damp
        wall.curve(1, 900, 10000);                   // material 1 holds 900
        wall.rates(0, 500, 300, 40);                 // vapour, liquid and leads of material 0
        wall.rates(1, 200, 700, 80);                 // and of material 1
        wall.cell(1, 1, 100);                        // cell 1 is of material 1, 100 thick
        wall.table(0, 611);                          // pressure full at warmth 0 ..
        wall.table(2000, 2339);                      // .. and at 2000
        for (int hour = 0; hour < 24; hour++) {
            wall.outside(hour, -500, 8000, 2, 100);  // warmth, damp, rain, sun
            wall.inside(hour, 2000, 6000);           // warmth, damp
        }
        wall.growth(7000, 500, 3000, 4);             // at damp 7000 and warmth 500 .. 3000 mould is 4 more in an hour
        int over = wall.run(24);                     // 24: a day is over
        int water = wall.told(1, 0);                 // 899: what cell 1 holds
        long rained = wall.balance(1);               // 652: what came from the outside
        int grown = wall.mould();                    // 36
        int outermost = wall.order(24, 0);           // 1: the cell whose layer should stand outside to stay driest
        // its answers
        CHECK.same("over", over, saidOf("over", readme));
        CHECK.same("water", water, saidOf("water", readme));
        CHECK.same("rained", rained, saidOf("rained", readme));
        CHECK.same("grown", grown, saidOf("grown", readme));
        CHECK.same("outermost", outermost, saidOf("outermost", readme));
        long left = wall.balance(1) + wall.balance(2) - wall.balance(3) - wall.balance(4) + wall.balance(5);
        CHECK.same("0 is always 1 + 2 - 3 - 4 + 5", wall.balance(0), left);
    }

    private static long saidOf(String name, String readme) {
        Matcher said = Pattern.compile(" " + name + " = wall\\..*; +// (\\d+)").matcher(readme);
        return said.find() ? Long.parseLong(said.group(1)) : WallDamp.NONE;
    }

    private static void theExampleIsTheOneBelow(String readme) throws IOException {
        String here = Files.readString(Path.of(TESTS, "ReadmeTest.java"));
        String below = between(here, "        // the example\n", "        // its answers\n").replaceAll("(?m)^ {8}", "");
        String said = between(readme, "```java\n", "```");
        CHECK.holds("the example of README.md is\n" + said + "the one that is run is\n" + below, said.equals(below));
    }

    private static String between(String text, String before, String behind) {
        int from = text.indexOf(before) + before.length();
        return text.substring(from, text.indexOf(behind, from));
    }

    private static void everyCallHasARow(String readme) {
        List<String> said = new ArrayList<>();
        Matcher rows = CALL_ROW.matcher(readme);
        while (rows.find()) {
            int numbers = rows.group(2).isEmpty() ? 0 : rows.group(2).split(",").length;
            said.add(rows.group(1) + " of " + numbers);
        }
        TreeSet<String> due = new TreeSet<>();
        due.add("WallDamp of 1");
        for (Method method : WallDamp.class.getDeclaredMethods()) {
            if (Modifier.isPublic(method.getModifiers())) {
                due.add(method.getName() + " of " + method.getParameterCount());
            }
        }
        CHECK.same("calls have one row each", said.size(), due.size());
        CHECK.holds("rows are of " + said, new TreeSet<>(said).equals(due));
    }

    private static void everyTestHasARow(String readme) throws IOException {
        TreeSet<String> said = new TreeSet<>();
        Matcher rows = TEST_ROW.matcher(readme);
        while (rows.find()) {
            said.add(rows.group(1));
        }
        TreeSet<String> due = new TreeSet<>();
        try (Stream<Path> files = Files.list(Path.of(TESTS))) {
            files.map(file -> file.getFileName().toString()).filter(name -> name.endsWith("Test.java"))
                .forEach(name -> due.add(name.substring(0, name.length() - ".java".length())));
        }
        CHECK.holds("tests with a row are " + said, said.equals(due));
    }
}
