import java.io.IOException;
import java.lang.reflect.Method;
import java.lang.reflect.Modifier;
import java.nio.file.Files;
import java.nio.file.Path;
import java.util.List;
import java.util.regex.Matcher;
import java.util.regex.Pattern;

/** README.md: its example answers what it says, and its table has every call. */
public final class ReadmeTest {
    private static final Check check = new Check("ReadmeTest");

    private final List<String> lines;
    private int at;

    private ReadmeTest(List<String> lines) {
        this.lines = lines;
    }

    public static void main(String[] args) throws IOException {
        ReadmeTest test = new ReadmeTest(Files.readAllLines(Path.of("README.md")));
        test.exampleHolds();
        test.tableIsWhole();
        check.end();
    }

    private void exampleHolds() {
        at = lines.indexOf("```java") + 1;
        next("MapDrawer map = new MapDrawer();");
        MapDrawer map = new MapDrawer();
        int hall = map.room(2, 0);
        answers("int hall = map.room(2, 0);", hall);
        int shed = map.play(hall, 2, MapDrawer.NONE);
        answers("int shed = map.play(hall, 2, MapDrawer.NONE);", shed);
        answers("map.play(shed, 6, hall);", map.play(shed, 6, hall));
        answers("map.draw(20000);", map.draw(20000));
        answers("map.place(shed, 0);", map.place(shed, 0));
        answers("map.sign(0, 0, 0);", map.sign(0, 0, 0));
        answers("map.sign(0, 2, 0);", map.sign(0, 2, 0));
        answers("map.step(hall, shed, 0);", map.step(hall, shed, 0));
        next("```");
    }

    private String next(String code) {
        String line = at < lines.size() ? lines.get(at++) : "";
        check.due("README.md's line " + line + " is " + code, line.startsWith(code) ? 1 : 0, 1);
        return line;
    }

    /** The number at the end of a line of the example is what its call answers. */
    private void answers(String code, int answer) {
        Matcher said = Pattern.compile("//.*: (-?\\d+)$").matcher(next(code));
        check.due(code + " has an answer", said.find() ? 1 : 0, 1);
        check.due(code, answer, Integer.parseInt(said.group(1)));
    }

    private void tableIsWhole() {
        int calls = 0;
        for (Method m : MapDrawer.class.getDeclaredMethods()) {
            if (Modifier.isPublic(m.getModifiers())) {
                calls++;
                check.due(m.getName() + " stands in the table", rowsOf(m), 1);
            }
        }
        check.due("rows of the table", lines.stream().filter(line -> line.startsWith("| `")).count(), calls);
    }

    private long rowsOf(Method m) {
        int n = m.getParameterCount();
        String list = n == 0 ? "" : "\\w+" + ", \\w+".repeat(n - 1);
        Pattern row = Pattern.compile("\\| `" + m.getName() + "\\(" + list + "\\)` \\|.*");
        return lines.stream().filter(line -> row.matcher(line).matches()).count();
    }
}
