import java.io.IOException;
import java.lang.reflect.InvocationTargetException;
import java.lang.reflect.Method;
import java.nio.file.Files;
import java.nio.file.Path;
import java.util.Arrays;
import java.util.Comparator;
import java.util.List;
import java.util.function.Consumer;
import java.util.function.Supplier;

/** The tests of one promise: each method that says some words of the document is one, and is run. */
abstract class Promise {
    static final int BAD = -1, NONE = -2, NOT = -3, FULL = -4;
    static final int N = 0, NE = 1, E = 2, SE = 3, S = 4, SW = 5, W = 6, NW = 7, UP = 8, DOWN = 9;
    static final int[] OPPOSITE = {S, SW, W, NW, N, NE, E, SE, DOWN, UP};
    static final int[] EAST = {0, 1, 1, 1, 0, -1, -1, -1, 0, 0};
    static final int[] SOUTH = {-1, -1, 0, 1, 1, 1, 0, -1, 0, 0};
    static final int[] RISE = {0, 0, 0, 0, 0, 0, 0, 0, 1, -1};
    static final int LEAST_INT = Integer.MIN_VALUE, GREATEST_INT = Integer.MAX_VALUE;

    private static final Path DOCUMENT = Path.of("../shared/DOC.md");

    private final Check check = new Check(getClass().getSimpleName());
    private String sentence;

    final void run() throws IOException, IllegalAccessException, InvocationTargetException {
        String document = Files.exists(DOCUMENT) ? oneLine(Files.readString(DOCUMENT)) : null;
        Method[] methods = getClass().getDeclaredMethods();
        Arrays.sort(methods, Comparator.comparing(Method::getName));
        for (Method m : methods) {
            Says says = m.getAnnotation(Says.class);
            if (says != null) {
                sentence = m.getName();
                boolean said = document == null || document.contains(oneLine(says.value()));
                check.due(sentence + ": the document says so", said ? 1 : 0, 1);
                m.setAccessible(true);
                m.invoke(this);
            }
        }
        check.end();
    }

    private static String oneLine(String text) {
        return text.replaceAll("\\s+", " ");
    }

    /** The answer of the latest call, and the one that is due. */
    final void due(int got, int want) {
        check.due(sentence + ": " + Asked.latest(), got, want);
    }

    final void duePlace(Asked m, int room, int x, int y, int level) {
        due(m.place(room, 0), x);
        due(m.place(room, 1), y);
        due(m.place(room, 2), level);
    }

    /** The signs of a level from its first column and row on, and blanks a place beyond. */
    final void dueLevel(Asked m, int level, String... want) {
        int columns = 7;
        for (String line : want) {
            columns = Math.max(columns, line.length() + 7);
        }
        for (int row = 0; row <= want.length + 1; row++) {
            String line = row < want.length ? want[row] : "";
            for (int column = 0; column < columns; column++) {
                due(m.sign(level, column, row), column < line.length() ? line.charAt(column) : 32);
            }
        }
    }

    /** Makes calls that are refused, and compares with a map that is made alike without them. */
    final void changesNothing(Supplier<Asked> made, Consumer<Asked> refused) {
        for (int view = 0; view < Asked.VIEWS; view++) {
            Asked touched = made.get();
            refused.accept(touched);
            List<Integer> got = touched.view(view);
            List<Integer> want = made.get().view(view);
            check.due(sentence + ": answers of view " + view, got.size(), want.size());
            for (int i = 0; i < Math.min(got.size(), want.size()); i++) {
                check.due(sentence + ": answer " + i + " of view " + view, got.get(i), want.get(i));
            }
        }
    }

    static Asked rooms(int count) {
        Asked m = new Asked();
        for (int r = 0; r < count; r++) {
            m.room(1, 0);
        }
        return m;
    }

    /** Rooms, and links of one way, each as FROM, DIRECTION, TO. */
    static Asked with(int rooms, int... links) {
        Asked m = rooms(rooms);
        for (int i = 0; i < links.length; i += 3) {
            if (m.exit(links[i], links[i + 1], links[i + 2], false) != i / 3) {
                throw new IllegalStateException(Asked.latest() + " was refused");
            }
        }
        return m;
    }

    /** Rooms of these widths, without links. */
    static Asked wide(int... widths) {
        Asked m = new Asked();
        for (int w : widths) {
            m.room(w, 0);
        }
        return m;
    }

    /** 7 rooms or more; out of 0 to 5 one of 60 links leads by each direction to the next room. */
    static Asked fullOfLinks(int rooms) {
        Asked m = rooms(rooms);
        for (int l = 0; l < 60; l++) {
            m.exit(l / 10, l % 10, l / 10 + 1, false);
        }
        return m;
    }

    /** Something of all that there is: a loop, a link of both, things, places, a room without one. */
    static Asked manifold() {
        Asked m = new Asked();
        m.room(2, 0);
        m.room(1, 0);
        m.room(5, 3);
        m.room(1, 3);
        m.room(3, 9);
        m.exit(0, E, 1, true);
        m.exit(1, S, 2, false);
        m.exit(2, UP, 3, true);
        m.exit(2, E, 2, true);
        m.exit(3, N, 0, false);
        m.mark(0, 4);
        m.mark(1, 4);
        m.mark(2, 0);
        m.draw(9);
        m.room(1, 0);
        m.exit(5, NW, 0, false);
        return m;
    }
}
