import java.io.IOException;
import java.lang.reflect.Constructor;
import java.lang.reflect.Field;
import java.lang.reflect.Method;
import java.lang.reflect.Modifier;
import java.nio.file.Files;
import java.nio.file.Path;
import java.util.Arrays;
import java.util.Set;
import java.util.TreeSet;

/** The class has the face of the document, and nothing of it stands outside LANGUAGE.md. */
public final class FaceTest {
    private static final String[] METHODS = {
        "int work(int,int)", "boolean near(int,int,boolean)", "boolean delay(int,int,int)",
        "boolean night(int,boolean)", "boolean event(int,int,boolean)", "boolean noise(int,int,int)",
        "boolean crew(int,int)", "boolean rest(int,int)", "int run(int)", "boolean drop(int)",
        "boolean may(int,int)", "int all()", "int late(int,int)", "int moved(int)", "int start(int)",
        "int least(int)", "int act(int,int,int)", "int state(int)", "int notice(int,int)",
        "boolean rate(int)", "long paid(int)", "int open(int)", "boolean holds()", "int count(int)"};

    /** Words that LANGUAGE.md rules out, or that nothing in this class should need. */
    private static final String[] RULED_OUT = {
        "import ", "package ", "->", "::", "finally", "synchronized", "assert ", "catch", "throw ",
        "Exact(", "double", "float", "System.out", "protected ", "static {", "native ", "Object"};

    private static final Due due = new Due();

    public static void main(String[] args) throws IOException {
        constants();
        constructor();
        methods();
        fields();
        source();
        noCallThrows();
        due.end();
    }

    private static void constants() {
        due.is("BAD", ClosureHours.BAD, -1);
        due.is("NONE", ClosureHours.NONE, -100);
    }

    private static void constructor() {
        due.yes("the class is final", Modifier.isFinal(ClosureHours.class.getModifiers()));
        Constructor<?>[] all = ClosureHours.class.getDeclaredConstructors();
        due.is("constructors", all.length, 1);
        due.yes("it is public", Modifier.isPublic(all[0].getModifiers()));
        due.yes("it takes an int", Arrays.equals(all[0].getParameterTypes(), new Class<?>[] {int.class}));
    }

    private static void methods() {
        Set<String> open = new TreeSet<>();
        Set<String> openNames = new TreeSet<>();
        for (Method m : ClosureHours.class.getDeclaredMethods()) {
            if (!Modifier.isPrivate(m.getModifiers())) {
                open.add(signature(m));
                openNames.add(m.getName());
            }
        }
        Set<String> want = new TreeSet<>(Arrays.asList(METHODS));
        due.yes("the methods of the face: " + open, open.equals(want));
        for (Method m : ClosureHours.class.getDeclaredMethods()) {
            if (Modifier.isPrivate(m.getModifiers())) {
                due.no("a private method is called " + m.getName(), openNames.contains(m.getName()));
            }
        }
        for (Class<?> inside : ClosureHours.class.getDeclaredClasses()) {
            due.yes(inside + " is static", Modifier.isStatic(inside.getModifiers()));
            for (Method m : inside.getDeclaredMethods()) {
                due.no("an inner method is called " + m.getName(), openNames.contains(m.getName()));
            }
        }
    }

    private static String signature(Method m) {
        StringBuilder text = new StringBuilder(m.getReturnType() + " " + m.getName() + "(");
        for (int i = 0; i < m.getParameterCount(); i++) {
            text.append(i == 0 ? "" : ",").append(m.getParameterTypes()[i]);
        }
        return text.append(")").toString();
    }

    private static void fields() {
        for (Field f : ClosureHours.class.getDeclaredFields()) {
            boolean ofTheFace = f.getName().equals("BAD") || f.getName().equals("NONE");
            due.yes(f + " is public or private as it must be", ofTheFace
                    ? Modifier.isPublic(f.getModifiers()) : Modifier.isPrivate(f.getModifiers()));
            due.yes(f + " is no static state",
                    !Modifier.isStatic(f.getModifiers()) || Modifier.isFinal(f.getModifiers()));
        }
    }

    /** Rule 7, also behind the 512th call; an exception would end this program with exit code 1. */
    private static void noCallThrows() {
        int[] numbers = {0, 1, 2, 3, 4, 5, -1, -2, 12, 35, 36, 37, 200, 100_001, Roads.LOW, Roads.HIGH};
        int calls = 0;
        for (int hours : new int[] {1, 5, 36}) {
            ClosureHours x = Roads.road(hours, 2, 3, 1);
            for (int a : numbers) {
                for (int b : numbers) {
                    callAll(x, a, b, (a + b) % 3 == 0);
                    callAll(x, b, a, (a + b) % 5 == 0);
                    calls += 48;
                }
            }
            due.is("hours still", x.count(0), hours);
        }
        due.yes("calls: " + calls, calls > 512);
    }

    private static void callAll(ClosureHours x, int a, int b, boolean is) {
        x.work(a, b);
        x.near(a, b, is);
        x.delay(a, b, b);
        x.night(a, is);
        x.event(a, b, is);
        x.noise(a, b, a);
        x.crew(a, b);
        x.rest(a, b);
        x.run(a);
        x.all();
        x.late(a, b);
        x.moved(a);
        x.start(a);
        x.least(a);
        x.act(a, b, a);
        x.state(a);
        x.notice(a, b);
        x.rate(b);
        x.paid(a);
        x.open(b);
        x.holds();
        x.count(a);
        x.may(a, b);
        x.drop(b);
    }

    private static void source() throws IOException {
        String text = Files.readString(Path.of("src/main/java/ClosureHours.java"));
        for (String word : RULED_OUT) {
            due.no("the source holds '" + word + "'", text.contains(word));
        }
    }
}
