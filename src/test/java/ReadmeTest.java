import java.io.IOException;
import java.lang.reflect.Method;
import java.lang.reflect.Modifier;
import java.nio.file.Files;
import java.nio.file.Path;
import java.util.ArrayList;
import java.util.List;

/** README.md's example answers what stands behind its calls, and README.md names every call. */
public final class ReadmeTest {
    private static final Due due = new Due();
    private static List<String> shown;
    private static int next;

    public static void main(String[] args) throws IOException {
        String readme = Files.readString(Path.of("README.md"));
        shown = example(readme);
        runExample();
        due.is("lines of the example that were run", next, shown.size());
        namesEveryCall(readme);
        due.end();
    }

    private static List<String> example(String readme) {
        List<String> lines = new ArrayList<>();
        boolean inside = false;
        for (String line : readme.split("\n")) {
            if (line.startsWith("```")) {
                inside = line.equals("```java");
            } else if (inside) {
                lines.add(line.replaceAll(" +//", " //"));
            }
        }
        return lines;
    }

    private static void runExample() {
        ClosureHours road = new ClosureHours(24);
        next("ClosureHours road = new ClosureHours(24);");
        answers("work(3, 1)", road.work(3, 1));
        answers("work(2, 0)", road.work(2, 0));
        answers("delay(0, 0, 30)", road.delay(0, 0, 30));
        answers("noise(0, 6, 23)", road.noise(0, 6, 23));
        answers("night(1, true)", road.night(1, true));
        answers("event(1, 4, true)", road.event(1, 4, true));
        answers("near(0, 1, true)", road.near(0, 1, true));
        answers("run(1)", road.run(1));
        answers("may(0, 1)", road.may(0, 1));
        answers("run(0)", road.run(0));
        answers("rate(9000)", road.rate(9000));
        answers("drop(1)", road.drop(1));
        answers("delay(0, 2, 10)", road.delay(0, 2, 10));
        answers("all()", road.all());
        answers("start(0)", road.start(0));
        answers("start(1)", road.start(1));
        answers("delay(0, 1, 5)", road.delay(0, 1, 5));
        answers("least(0)", road.least(0));
        answers("paid(0)", road.paid(0));
        answers("act(0, 0, 0)", road.act(0, 0, 0));
        answers("act(0, 1, 1)", road.act(0, 1, 1));
        answers("late(0, 2)", road.late(0, 2));
        answers("moved(0)", road.moved(0));
        answers("state(0)", road.state(0));
        answers("count(3)", road.count(3));
        answers("notice(5, 1)", road.notice(5, 1));
        answers("holds()", road.holds());
    }

    private static void answers(String call, Object answer) {
        next("road." + call + "; // " + answer);
    }

    /** The example's next line is this one, with or without words behind it. */
    private static void next(String want) {
        String line = next < shown.size() ? shown.get(next) : "";
        next++;
        int words = line.indexOf(": ");
        due.same("a line of the example", words < 0 ? line : line.substring(0, words), want);
    }

    private static void namesEveryCall(String readme) {
        for (Method m : ClosureHours.class.getDeclaredMethods()) {
            if (Modifier.isPublic(m.getModifiers())) {
                due.yes("README.md names " + m.getName(), readme.contains("`" + m.getName() + "`"));
            }
        }
    }
}
