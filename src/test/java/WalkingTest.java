/** Promises 18 and 19: shortest ways. */
public final class WalkingTest {
    private static final int BAD = MapDrawer.BAD;
    private static final int NONE = MapDrawer.NONE;

    private static final Check check = new Check("WalkingTest");

    public static void main(String[] args) {
        waysGoAsLinksLead();
        theLeastDirectionWins();
        theShortestWins();
        longWays();
        roomsAreRefused();
        check.end();
    }

    private static MapDrawer withRooms(int count) {
        MapDrawer m = new MapDrawer();
        for (int i = 0; i < count; i++) {
            m.room(1, 0);
        }
        return m;
    }

    private static void dueWay(MapDrawer m, int from, int to, int... want) {
        String name = "from " + from + " to " + to;
        check.due("far " + name, m.far(from, to), want.length);
        for (int k = -2; k < want.length + 2; k++) {
            int due = k < 0 || k >= want.length ? NONE : want[k];
            check.due("step " + name + ", " + k, m.step(from, to, k), due);
        }
        check.due("step " + name + ", greatest", m.step(from, to, Integer.MAX_VALUE), NONE);
        check.due("step " + name + ", least", m.step(from, to, Integer.MIN_VALUE), NONE);
    }

    private static void dueNoWay(MapDrawer m, int from, int to) {
        check.due("far", m.far(from, to), NONE);
        for (int k = -1; k < 2; k++) {
            check.due("step", m.step(from, to, k), NONE);
        }
    }

    private static void waysGoAsLinksLead() {
        MapDrawer m = withRooms(4);
        m.exit(0, 2, 1, false);
        m.exit(1, 8, 2, true);
        m.exit(3, 3, 3, true);
        dueWay(m, 0, 2, 2, 8);
        dueWay(m, 2, 1, 9);
        dueNoWay(m, 2, 0);
        dueNoWay(m, 0, 3);
        dueWay(m, 3, 3);
        dueWay(m, 0, 0);
        m.play(1, 6, 0);
        dueWay(m, 2, 0, 9, 6);
        m.cut(1);
        dueNoWay(m, 0, 2);
        dueWay(m, 1, 0, 6);
    }

    private static void theLeastDirectionWins() {
        MapDrawer m = withRooms(6);
        m.exit(0, 5, 1, false);
        m.exit(0, 3, 2, false);
        m.exit(1, 0, 4, false);
        m.exit(2, 9, 4, false);
        m.exit(4, 7, 5, false);
        m.exit(4, 6, 5, false);
        dueWay(m, 0, 5, 3, 9, 6);
        // by a link of both one goes by the opposite
        m.exit(3, 4, 0, true);
        m.exit(3, 1, 1, false);
        m.exit(4, 2, 3, true);
        dueWay(m, 0, 3, 0);
        dueWay(m, 3, 4, 6);
        dueWay(m, 0, 4, 0, 6);
    }

    private static void theShortestWins() {
        MapDrawer m = withRooms(5);
        m.exit(0, 0, 1, true);
        m.exit(1, 0, 2, true);
        m.exit(2, 0, 3, true);
        m.exit(0, 9, 4, true);
        m.exit(4, 9, 3, false);
        m.exit(0, 1, 0, false);
        dueWay(m, 0, 3, 9, 9);
        dueWay(m, 3, 0, 4, 4, 4);
        dueWay(m, 4, 2, 9, 4);
        dueWay(m, 1, 4, 4, 9);
    }

    private static void longWays() {
        MapDrawer m = withRooms(24);
        int[] forth = new int[23];
        int[] back = new int[23];
        for (int r = 0; r < 23; r++) {
            m.exit(r, r % 4, r + 1, true);
            forth[r] = r % 4;
            back[22 - r] = r % 4 + 4;
        }
        dueWay(m, 0, 23, forth);
        dueWay(m, 23, 0, back);
    }

    private static void roomsAreRefused() {
        MapDrawer m = withRooms(1);
        int[] bad = {-1, 1, NONE, 24, Integer.MAX_VALUE, Integer.MIN_VALUE};
        for (int b : bad) {
            check.due("far(0, " + b + ")", m.far(0, b), BAD);
            check.due("far(" + b + ", 0)", m.far(b, 0), BAD);
            check.due("step(0, " + b + ", 0)", m.step(0, b, 0), BAD);
            check.due("step(" + b + ", 0, -1)", m.step(b, 0, -1), BAD);
        }
    }
}
