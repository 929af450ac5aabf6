import java.io.IOException;
import java.lang.reflect.Constructor;
import java.lang.reflect.Field;
import java.lang.reflect.Method;
import java.lang.reflect.Modifier;
import java.nio.file.Files;
import java.nio.file.Path;
import java.util.Arrays;
import java.util.List;
import java.util.Set;
import java.util.TreeSet;
import java.util.regex.Matcher;
import java.util.regex.Pattern;

/** The public face, as the document has it, and the rules of LANGUAGE.md that can be read off the source. */
public final class FaceTest {
    private static final List<String> FACE = List.of("room(int,int)", "exit(int,int,int,boolean)", "cut(int)",
            "play(int,int,int)", "mark(int,int)", "alike(int)", "link(int,int)", "out(int,int)", "part(int)",
            "draw(int)", "grow()", "least(int)", "steps()", "place(int,int)", "straight(int)", "cost()",
            "far(int,int)", "step(int,int,int)", "sign(int,int,int)", "told(int)");

    /** Of what LANGUAGE.md lists, that which the class uses. */
    private static final List<String> LIBRARY = List.of("Math.abs", "Math.max", "Math.min");
    private static final List<String> NUMBERS = List.of("int", "boolean");

    private static final Check check = new Check("FaceTest");

    public static void main(String[] args) throws IOException {
        check.due("a final class", Modifier.isFinal(MapDrawer.class.getModifiers()) ? 1 : 0, 1);
        constantsAreThere();
        methodsAreThere();
        nestedClassesKeepTheRules();
        sourceKeepsTheRules(Files.readString(Path.of("src/main/java/MapDrawer.java")));
        check.end();
    }

    private static void constantsAreThere() {
        check.due("BAD", MapDrawer.BAD, -1);
        check.due("NONE", MapDrawer.NONE, -2);
        check.due("NOT", MapDrawer.NOT, -3);
        check.due("FULL", MapDrawer.FULL, -4);
        TreeSet<String> seen = new TreeSet<>();
        for (Field f : MapDrawer.class.getDeclaredFields()) {
            if (!Modifier.isPrivate(f.getModifiers())) {
                seen.add(f.getName());
            }
        }
        dueSame("fields that are not private", seen, new TreeSet<>(List.of("BAD", "NONE", "NOT", "FULL")));
    }

    private static void methodsAreThere() {
        TreeSet<String> seen = new TreeSet<>();
        for (Method m : MapDrawer.class.getDeclaredMethods()) {
            if (!Modifier.isPrivate(m.getModifiers())) {
                String types = Arrays.toString(Arrays.stream(m.getParameterTypes()).map(Class::getName).toArray());
                seen.add(m.getName() + "(" + types.replaceAll("[\\[\\] ]", "") + ")");
                check.due(m.getName() + " is public", Modifier.isPublic(m.getModifiers()) ? 1 : 0, 1);
                check.due(m.getName() + " answers an int", m.getReturnType() == int.class ? 1 : 0, 1);
            }
        }
        dueSame("methods that are not private", seen, new TreeSet<>(FACE));
        Constructor<?>[] made = MapDrawer.class.getDeclaredConstructors();
        check.due("constructors", made.length, 1);
        check.due("its parameters", made[0].getParameterCount(), 0);
    }

    private static void nestedClassesKeepTheRules() {
        Class<?>[] nested = MapDrawer.class.getDeclaredClasses();
        check.due("few classes", nested.length <= 12 ? 1 : 0, 1);
        for (Class<?> c : nested) {
            check.due(c.getName() + " is static", Modifier.isStatic(c.getModifiers()) ? 1 : 0, 1);
            for (Field f : c.getDeclaredFields()) {
                boolean fixed = !Modifier.isStatic(f.getModifiers()) || Modifier.isFinal(f.getModifiers());
                check.due(c.getName() + "." + f.getName() + " is final if static", fixed ? 1 : 0, 1);
            }
            for (Method m : c.getDeclaredMethods()) {
                boolean ofFace = FACE.stream().anyMatch(face -> face.startsWith(m.getName() + "("));
                check.due(c.getName() + "." + m.getName() + " has a name of the face", ofFace ? 1 : 0, 0);
                check.due(c.getName() + "." + m.getName() + " has few parameters",
                        m.getParameterCount() <= 7 ? 1 : 0, 1);
            }
        }
    }

    private static void sourceKeepsTheRules(String source) {
        String code = source.replaceAll("(?s)/\\*.*?\\*/", "").replaceAll("//[^\n]*", "");
        String[] never = {"\\bthrow\\b", "\\btry\\b", "\\bcatch\\b", "\\bsynchronized\\b", "\\bassert\\b", "\\bimport\\b",
            "\\bpackage\\b", "->", "::", "Exact\\b", "\\bsuper\\b", "\\bvar\\b", "\\bnull\\b"};
        for (String word : never) {
            Matcher found = Pattern.compile(word).matcher(code);
            check.due("the source has " + word, found.find() ? 1 : 0, 0);
        }
        libraryIsOnTheList(code);
    }

    /** Rule 4 lists what may be used of the library: Integer's functions, say, but not its constants. */
    private static void libraryIsOnTheList(String code) {
        Set<String> own = new TreeSet<>();
        for (Class<?> c : MapDrawer.class.getDeclaredClasses()) {
            own.add(c.getSimpleName());
        }
        Matcher asked = Pattern.compile("\\b([A-Z][A-Za-z]*)\\s*\\.\\s*(\\w+)").matcher(code);
        while (asked.find()) {
            String name = asked.group(1) + "." + asked.group(2);
            check.due(name, own.contains(asked.group(1)) || LIBRARY.contains(name) ? 1 : 0, 1);
        }
        Matcher made = Pattern.compile("\\bnew\\s+(\\w+)").matcher(code);
        while (made.find()) {
            String name = made.group(1);
            check.due("new " + name, own.contains(name) || NUMBERS.contains(name) ? 1 : 0, 1);
        }
    }

    private static void dueSame(String what, TreeSet<String> got, TreeSet<String> want) {
        if (!got.equals(want)) {
            System.out.println(what + ": " + got);
        }
        check.due(what, got.equals(want) ? 1 : 0, 1);
    }
}
