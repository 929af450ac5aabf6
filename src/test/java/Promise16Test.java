/** Promise 16: straight. */
public final class Promise16Test extends Promise {
    public static void main(String[] args) throws Exception {
        new Promise16Test().run();
    }

    /** A link of one way by a direction from room 0, at 0, to room 1, at x, y and a level. */
    private static Asked link(int direction, int x, int y, int level) {
        Asked m = with(3, 0, direction, 1);
        m.force(0, 0, 0, 0);
        m.force(1, x, y, level);
        return m;
    }

    @Says("is STRAIGHT, if TO lies at some DISTANCE d, 1 .. 60, by its DIRECTION from FROM")
    void itIsStraightFromOneTo60() {
        int[] distances = {1, 2, 3, 4, 59, 60};
        for (int direction = N; direction <= NW; direction++) {
            for (int d : distances) {
                due(link(direction, d * EAST[direction], d * SOUTH[direction], 0).straight(0), d);
            }
            int[] others = {61, 62, 1000, -1, -60};
            for (int d : others) {
                due(link(direction, d * EAST[direction], d * SOUTH[direction], 0).straight(0), NONE);
            }
        }
    }

    @Says("At DISTANCE d by a DIRECTION lies what is d columns, rows (both by 1, 3, 5, 7) from there, on the same level")
    void besideTheLineItIsBent() {
        for (int direction = N; direction <= NW; direction++) {
            for (int x = -3; x <= 3; x++) {
                for (int y = -3; y <= 3; y++) {
                    int d = Math.max(Math.abs(x), Math.abs(y));
                    boolean there = d > 0 && x == d * EAST[direction] && y == d * SOUTH[direction];
                    due(link(direction, x, y, 0).straight(0), there ? d : NONE);
                    due(link(direction, x, y, 1).straight(0), NONE);
                    due(link(direction, x, y, -1).straight(0), NONE);
                }
            }
        }
    }

    @Says("by 8, 9 what has the same x and y, on the level above, below, for any d")
    void upAndDownGoOneLevel() {
        for (int level = -3; level <= 3; level++) {
            due(link(UP, 0, 0, level).straight(0), level == 1 ? 1 : NONE);
            due(link(DOWN, 0, 0, level).straight(0), level == -1 ? 1 : NONE);
        }
        int[][] beside = {{1, 0}, {-1, 0}, {0, 1}, {0, -1}, {1, 1}};
        for (int[] xy : beside) {
            due(link(UP, xy[0], xy[1], 1).straight(0), NONE);
            due(link(DOWN, xy[0], xy[1], -1).straight(0), NONE);
        }
    }

    @Says("and no room (of all that are placed) at a lesser one")
    void aRoomBetweenBendsIt() {
        for (int direction = N; direction <= NW; direction++) {
            for (int between = -1; between <= 6; between++) {
                Asked m = link(direction, 5 * EAST[direction], 5 * SOUTH[direction], 0);
                m.force(2, between * EAST[direction], between * SOUTH[direction], between % 5 == 0 ? 1 : 0);
                due(m.straight(0), between >= 1 && between <= 4 ? NONE : 5);
            }
            Asked m = link(direction, 2 * EAST[direction], 2 * SOUTH[direction], 0);
            m.force(2, EAST[direction], SOUTH[direction], 1);
            due(m.straight(0), 2);
        }
    }

    @Says("and no room (of all that are placed) at a lesser one")
    void oneThatIsNotPlacedDoesNot() {
        Asked m = with(3, 0, E, 1);
        m.force(0, -1, 0, 0);
        m.force(1, 1, 0, 0);
        due(m.straight(0), 2);
        m.force(2, 0, 0, 0);
        due(m.straight(0), NONE);
    }

    @Says("and no room (of all that are placed) at a lesser one")
    void roomsOfOtherPartsBendIt() {
        Asked m = rooms(4);
        m.draw(1);
        m.exit(0, E, 1, false);
        m.exit(3, W, 0, false);
        m.exit(2, W, 1, false);
        due(m.straight(0), 2);
        due(m.straight(1), NONE);
        due(m.straight(2), 2);
        m = rooms(24);
        m.draw(1);
        m.exit(22, E, 23, false);
        m.exit(21, E, 23, false);
        m.exit(23, W, 0, false);
        due(m.straight(0), 2);
        due(m.straight(1), NONE);
        due(m.straight(2), NONE);
    }

    @Says("a LOOP (0), BENT (NONE), by the places that are now")
    void loopsAndBentOnes() {
        for (int direction = 0; direction <= 9; direction++) {
            Asked m = with(2, 0, direction, 0, 0, (direction + 1) % 10, 1);
            m.exit(1, direction, 1, true);
            m.force(0, 0, 0, 0);
            m.force(1, 7, 3, 0);
            due(m.straight(0), 0);
            due(m.straight(1), NONE);
            due(m.straight(2), 0);
        }
    }

    @Says("by the places that are now")
    void itGoesByThePlacesThatAreNow() {
        Asked m = with(2, 0, E, 1);
        m.draw(9);
        due(m.straight(0), 1);
        m.cut(0);
        m.exit(1, W, 0, false);
        m.exit(0, W, 1, false);
        due(m.straight(0), 1);
        due(m.straight(1), NONE);
        m.cut(0);
        due(m.straight(0), NONE);
        m.draw(9);
        due(m.straight(0), 1);
    }

    @Says("NOT: a room of it has none.")
    void withoutAPlaceItIsNot() {
        Asked m = with(3, 0, E, 1, 1, N, 1);
        due(m.straight(0), NOT);
        due(m.straight(1), NOT);
        m.draw(9);
        m.room(1, 0);
        m.exit(3, E, 0, false);
        m.exit(0, S, 3, false);
        m.exit(3, E, 3, true);
        due(m.straight(0), 1);
        due(m.straight(1), 0);
        due(m.straight(2), NOT);
        due(m.straight(3), NOT);
        m.grow();
        due(m.straight(2), 1);
        due(m.straight(3), NONE);
    }

    @Says("Of several the first one in the order BAD, NOT, FULL, NONE.")
    void aLoopWithoutAPlaceIsNot() {
        Asked m = with(1, 0, E, 0);
        due(m.straight(0), NOT);
        m.draw(1);
        due(m.straight(0), 0);
    }

    @Says("BAD: a number is none that there is, or outside what is told")
    void aLinkIsOneThatThereIs() {
        Asked m = with(2, 0, E, 1, 1, E, 0);
        int[] none = {-1, 2, NONE, 59, 60, LEAST_INT, GREATEST_INT};
        for (int l : none) {
            due(m.straight(l), BAD);
        }
        m.draw(99);
        for (int l : none) {
            due(m.straight(l), BAD);
        }
        due(m.straight(1), NONE);
    }
}
