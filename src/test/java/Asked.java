import java.lang.reflect.Field;
import java.lang.reflect.Method;
import java.util.ArrayList;
import java.util.Arrays;
import java.util.List;

/** A MapDrawer that remembers the latest call, and refuses to be asked more often than the document allows. */
final class Asked {
    /** How many kinds of answers view() has. */
    static final int VIEWS = 4;

    static final int MOST_CALLS = 512;
    private static final int MOST_SIGNS = 300;
    private static String latest = "";

    private final MapDrawer map = new MapDrawer();
    private int calls;

    /** The latest call of all objects, as a text. */
    static String latest() {
        return latest;
    }

    /** How many calls may still be made. */
    int callsLeft() {
        return MOST_CALLS - calls;
    }

    int room(int width, int region) {
        note("room", width, region);
        return map.room(width, region);
    }

    int exit(int from, int direction, int to, boolean both) {
        note("exit", from, direction, to, both);
        return map.exit(from, direction, to, both);
    }

    int cut(int link) {
        note("cut", link);
        return map.cut(link);
    }

    int play(int from, int direction, int to) {
        note("play", from, direction, to);
        return map.play(from, direction, to);
    }

    int mark(int room, int thing) {
        note("mark", room, thing);
        return map.mark(room, thing);
    }

    int alike(int region) {
        note("alike", region);
        return map.alike(region);
    }

    int link(int i, int what) {
        note("link", i, what);
        return map.link(i, what);
    }

    int out(int room, int direction) {
        note("out", room, direction);
        return map.out(room, direction);
    }

    int part(int room) {
        note("part", room);
        return map.part(room);
    }

    int draw(int steps) {
        note("draw", steps);
        return map.draw(steps);
    }

    int grow() {
        note("grow");
        return map.grow();
    }

    int least(int part) {
        note("least", part);
        return map.least(part);
    }

    int steps() {
        note("steps");
        return map.steps();
    }

    int place(int room, int what) {
        note("place", room, what);
        return map.place(room, what);
    }

    int straight(int link) {
        note("straight", link);
        return map.straight(link);
    }

    int cost() {
        note("cost");
        return map.cost();
    }

    int far(int from, int to) {
        note("far", from, to);
        return map.far(from, to);
    }

    int step(int from, int to, int k) {
        note("step", from, to, k);
        return map.step(from, to, k);
    }

    int sign(int level, int column, int row) {
        note("sign", level, column, row);
        return map.sign(level, column, row);
    }

    int told(int what) {
        note("told", what);
        return map.told(what);
    }

    private void note(String call, Object... with) {
        calls++;
        if (calls > MOST_CALLS) {
            throw new IllegalStateException("nothing is promised behind the 512th call");
        }
        String list = Arrays.toString(with);
        latest = call + "(" + list.substring(1, list.length() - 1) + ")";
    }

    /** Puts a room by hand: 24 rooms do not come 60 places apart by calls alone (see NOTES.md). */
    void force(int room, int x, int y, int level) {
        try {
            Field field = MapDrawer.class.getDeclaredField("places");
            field.setAccessible(true);
            Object places = field.get(map);
            Method put = places.getClass().getDeclaredMethod("put", int.class, int.class, int.class, int.class);
            put.setAccessible(true);
            put.invoke(places, room, x, y, level);
        } catch (ReflectiveOperationException e) {
            throw new IllegalStateException(e);
        }
    }

    /** All answers of one kind; one object has not calls enough for all kinds. */
    List<Integer> view(int kind) {
        List<Integer> answers = new ArrayList<>();
        switch (kind) {
            case 0 -> viewLinks(answers);
            case 1 -> viewWays(answers);
            case 2 -> viewPlaces(answers);
            default -> viewSigns(answers);
        }
        return answers;
    }

    private void viewLinks(List<Integer> answers) {
        for (int what = 0; what < 8; what++) {
            answers.add(told(what));
        }
        for (int region = 0; region < 10; region++) {
            answers.add(alike(region));
        }
        for (int l = 0; l < map.told(1); l++) {
            for (int what = 0; what < 5; what++) {
                answers.add(link(l, what));
            }
        }
    }

    private void viewWays(List<Integer> answers) {
        for (int r = 0; r < map.told(0); r++) {
            for (int d = 0; d < 10; d++) {
                answers.add(out(r, d));
            }
            answers.add(part(r));
            answers.add(far(0, r));
            answers.add(step(0, r, 0));
        }
    }

    /** Things are told by taking them away, so this view comes last. */
    private void viewPlaces(List<Integer> answers) {
        answers.add(steps());
        answers.add(cost());
        for (int p = 0; p < 24; p++) {
            answers.add(least(p));
        }
        for (int l = 0; l < map.told(1); l++) {
            answers.add(straight(l));
        }
        for (int r = 0; r < map.told(0); r++) {
            for (int what = 0; what < 3; what++) {
                answers.add(place(r, what));
            }
            answers.add(mark(r, MapDrawer.NONE));
        }
    }

    private void viewSigns(List<Integer> answers) {
        int columns = 6 * map.told(6);
        for (int level = map.told(4); level <= map.told(5); level++) {
            for (int row = 0; row < 2 * map.told(7); row++) {
                for (int column = 0; column < columns && answers.size() < MOST_SIGNS; column++) {
                    answers.add(sign(level, column, row));
                }
            }
        }
    }
}
