/** Promises 11 to 17 and 21: placing, its cost, and what is told of it. */
public final class PlacesTest {
    private static final int BAD = MapDrawer.BAD;
    private static final int NONE = MapDrawer.NONE;
    private static final int NOT = MapDrawer.NOT;
    private static final int N = 0, NE = 1, E = 2, SE = 3, S = 4, SW = 5, W = 6, NW = 7, UP = 8, DOWN = 9;

    private static final Check check = new Check("PlacesTest");

    public static void main(String[] args) {
        aPairLiesByEachDirection();
        stepsAreCounted();
        stepsRunOut();
        stepsAreRefused();
        theFirstOfLikePlacingsCounts();
        aLongerLinkIsBetterThanABentOne();
        whatLiesBetweenBends();
        sparePlacesAreTheNearest();
        sparePlacesAreOnTheFirstLinksLevel();
        partsLieSideBySide();
        leastIsOfTheLatestDraw();
        growKeepsPlaces();
        growFromNothing();
        growPlacesTheLeastJoinedRoomFirst();
        laterRoomsHaveNoPlace();
        straightTellsLoopsAndBends();
        linksBetweenPartsAreMeasured();
        costSkipsUnplacedRooms();
        placeAndToldAreRefused();
        theWholeIsMeasured();
        check.end();
    }

    private static MapDrawer withRooms(int count) {
        MapDrawer m = new MapDrawer();
        for (int i = 0; i < count; i++) {
            m.room(1, 0);
        }
        return m;
    }

    /** Links of one way, each as from, direction, to. */
    private static MapDrawer with(int rooms, int... links) {
        MapDrawer m = withRooms(rooms);
        for (int i = 0; i < links.length; i += 3) {
            check.due("exit", m.exit(links[i], links[i + 1], links[i + 2], false), i / 3);
        }
        return m;
    }

    private static void duePlace(String when, MapDrawer m, int room, int... want) {
        for (int what = 0; what < 3; what++) {
            check.due(when + ": place(" + room + ", " + what + ")", m.place(room, what), want[what]);
        }
    }

    private static void aPairLiesByEachDirection() {
        int[][] first = {{0, 1, 0}, {0, 1, 0}, {0, 0, 0}, {0, 0, 0}, {0, 0, 0}, {1, 0, 0}, {1, 0, 0}, {1, 1, 0},
            {0, 0, 0}, {0, 0, 0}};
        int[][] second = {{0, 0, 0}, {1, 0, 0}, {1, 0, 0}, {1, 1, 0}, {0, 1, 0}, {0, 1, 0}, {0, 0, 0}, {0, 0, 0},
            {0, 0, 1}, {0, 0, -1}};
        for (int d = 0; d < 10; d++) {
            MapDrawer m = with(2, 0, d, 1);
            check.due("draw by " + d, m.draw(100), 0);
            duePlace("drawn by " + d, m, 0, first[d]);
            duePlace("drawn by " + d, m, 1, second[d]);
            check.due("straight by " + d, m.straight(0), 1);
            check.due("steps by " + d, m.steps(), d >= 8 ? 2 : 4);
            m = with(2, 1, d, 0);
            check.due("draw back by " + d, m.draw(100), 0);
            duePlace("drawn back by " + d, m, 1, d == 8 ? new int[] {0, 0, -1} : d == 9 ? new int[] {0, 0, 1} : first[d]);
        }
    }

    private static void stepsAreCounted() {
        MapDrawer m = with(1);
        m.draw(1);
        check.due("steps of one room", m.steps(), 1);
        check.due("one room is least", m.least(0), 1);
        m = with(3, 0, E, 1, 1, E, 2);
        m.draw(20000);
        check.due("steps of a row of three", m.steps(), 1 + 3 + 9);
        m = with(3, 0, E, 1, 1, W, 2);
        m.draw(20000);
        check.due("a place that is taken is no chance", m.steps(), 1 + 3 + 6);
        m = with(2, 0, E, 1, 1, W, 0);
        m.draw(20000);
        check.due("a place that comes again is a chance again", m.steps(), 1 + 6);
        m = with(4, 0, E, 1, 2, E, 3);
        m.draw(20000);
        check.due("steps of all parts", m.steps(), 8);
        m.grow();
        check.due("steps behind a grow", m.steps(), 8);
        m = with(3, 0, E, 0, 0, UP, 1, 1, UP, 2);
        m.draw(20000);
        check.due("levels have one chance, loops none", m.steps(), 3);
    }

    private static void stepsRunOut() {
        MapDrawer m = with(3, 0, E, 1, 1, E, 2);
        for (int n = 1; n <= 14; n++) {
            check.due("draw(" + n + ")", m.draw(n), 0);
            check.due("steps of draw(" + n + ")", m.steps(), Math.min(n, 13));
            check.due("least of draw(" + n + ")", m.least(0), n >= 13 ? 1 : 0);
            duePlace("draw(" + n + ")", m, 2, 2, 0, 0);
        }
        m = with(5, 0, E, 1, 2, E, 3);
        m.draw(3);
        check.due("steps for each part", m.steps(), 3 + 3 + 1);
        check.due("least(0)", m.least(0), 0);
        check.due("least(1)", m.least(1), 0);
        check.due("least(2)", m.least(2), 1);
        // room 1 two places off is the ninth step, behind it room 2 the tenth: then none is bent
        m = with(3, 0, E, 1, 0, SE, 2, 2, NE, 1);
        check.due("too few steps", m.draw(9), 1);
        check.due("the placing of the last step counts", m.draw(10), 0);
        check.due("not all were tried", m.least(0), 0);
        check.due("all steps", m.draw(20000), 0);
        duePlace("all steps", m, 1, 2, 0, 0);
        duePlace("all steps", m, 2, 1, 1, 0);
    }

    private static void stepsAreRefused() {
        MapDrawer m = with(2, 0, E, 1);
        m.draw(20000);
        int[] bad = {0, -1, 20001, Integer.MIN_VALUE, Integer.MAX_VALUE};
        for (int n : bad) {
            check.due("draw(" + n + ")", m.draw(n), BAD);
        }
        check.due("steps stay", m.steps(), 4);
        check.due("least stays", m.least(0), 1);
        duePlace("places stay", m, 1, 1, 0, 0);
        m.room(1, 0);
        m.draw(0);
        check.due("a refused draw places nothing", m.place(2, 0), -1002);
    }

    private static void theFirstOfLikePlacingsCounts() {
        MapDrawer m = with(3, 0, E, 1, 1, W, 2);
        check.due("one is bent", m.draw(20000), 1);
        check.due("cost", m.cost(), 10);
        duePlace("first of like ones", m, 2, 0, 0, 0);
        duePlace("first of like ones", m, 0, 1, 0, 0);
        duePlace("first of like ones", m, 1, 2, 0, 0);
        check.due("straight(0)", m.straight(0), 1);
        check.due("straight(1)", m.straight(1), NONE);
    }

    private static void aLongerLinkIsBetterThanABentOne() {
        MapDrawer m = with(5, 0, E, 1, 0, S, 2, 2, E, 3, 3, E, 4, 4, N, 1);
        check.due("none is bent", m.draw(20000), 0);
        check.due("straight(0)", m.straight(0), 2);
        check.due("cost", m.cost(), 1);
        duePlace("drawn", m, 1, 2, 0, 0);
        duePlace("drawn", m, 4, 2, 1, 0);
        check.due("by first chances", m.draw(1), 1);
        check.due("cost", m.cost(), 10);
    }

    private static void whatLiesBetweenBends() {
        // three on a row: the link from 0 to 2 goes over 1
        MapDrawer m = with(3, 0, E, 1, 1, E, 2, 2, W, 0);
        check.due("draw", m.draw(1), 1);
        check.due("over a room", m.straight(2), NONE);
        m = with(3, 0, UP, 1, 1, UP, 2);
        m.exit(2, DOWN, 0, false);
        check.due("two levels below", m.draw(20000), 1);
        check.due("straight(2)", m.straight(2), NONE);
    }

    private static void sparePlacesAreTheNearest() {
        MapDrawer m = withRooms(18);
        for (int r = 1; r < 18; r++) {
            m.exit(r, E, 0, false);
        }
        m.grow();
        int[][] want = {{0, 0}, {-1, 0}, {-2, 0}, {-3, 0}, {0, -1}, {1, 0}, {0, 1}, {0, -2}, {-1, -1}, {1, -1}, {2, 0},
            {-1, 1}, {1, 1}, {0, 2}, {0, -3}, {-1, -2}, {1, -2}, {-2, -1}};
        for (int r = 0; r < want.length; r++) {
            duePlace("spare places", m, r, want[r][0], want[r][1], 0);
        }
        check.due("bent", m.grow(), 16);
        check.due("drawn by first chances", m.draw(1), 16);
        duePlace("drawn", m, 17, 1, 2, 0);
    }

    private static void sparePlacesAreOnTheFirstLinksLevel() {
        MapDrawer m = with(3, 1, DOWN, 0, 2, UP, 1, 2, DOWN, 0);
        m.grow();
        duePlace("level of room 1", m, 2, 0, -1, 1);
        m = with(3, 1, DOWN, 0, 2, DOWN, 0, 2, UP, 1);
        m.grow();
        duePlace("level of room 0", m, 2, 0, -1, 0);
        check.due("a spare place is a step", m.draw(20000), 2);
        check.due("steps", m.steps(), 3);
        check.due("least", m.least(0), 1);
    }

    private static void partsLieSideBySide() {
        MapDrawer m = with(6, 0, W, 3, 1, N, 4, 2, DOWN, 5);
        check.due("draw", m.draw(100), 0);
        duePlace("parts", m, 3, 0, 0, 0);
        duePlace("parts", m, 0, 1, 0, 0);
        duePlace("parts", m, 4, 3, 0, 0);
        duePlace("parts", m, 1, 3, 1, 0);
        duePlace("parts", m, 2, 5, 0, 0);
        duePlace("parts", m, 5, 5, 0, -1);
        // a room of another part on the way of a link while it is drawn would change places
        m = with(4, 0, E, 2, 1, E, 3);
        m.draw(100);
        duePlace("each by itself", m, 1, 3, 0, 0);
        duePlace("each by itself", m, 3, 4, 0, 0);
    }

    private static void leastIsOfTheLatestDraw() {
        MapDrawer m = with(3, 0, E, 1);
        check.due("before", m.least(0), NONE);
        m.draw(2);
        check.due("least(0)", m.least(0), 0);
        check.due("least(1)", m.least(1), 1);
        check.due("least(2)", m.least(2), NONE);
        check.due("least(23)", m.least(23), NONE);
        check.due("least(24)", m.least(24), BAD);
        check.due("least(-1)", m.least(-1), BAD);
        m.room(1, 0);
        check.due("a part that came later", m.least(2), NONE);
        m.exit(0, S, 2, false);
        check.due("by the latest draw", m.least(1), 1);
        m.draw(20000);
        check.due("drawn again", m.least(0), 1);
        m.grow();
        check.due("behind a grow", m.least(0), NONE);
        check.due("behind a grow, bad", m.least(24), BAD);
        m.draw(20000);
        check.due("drawn behind it", m.least(0), 1);
        m.draw(0);
        check.due("a refused draw", m.least(0), 1);
    }

    private static void growKeepsPlaces() {
        MapDrawer m = with(2, 0, E, 1);
        m.draw(100);
        m.exit(0, SE, 1, false);
        m.cut(0);
        check.due("the way has changed", m.grow(), 1);
        duePlace("stays", m, 1, 1, 0, 0);
        m.room(1, 0);
        m.room(1, 0);
        m.room(1, 0);
        m.exit(4, E, 0, false);
        check.due("grow", m.grow(), 1);
        duePlace("to the west", m, 4, -1, 0, 0);
        duePlace("two beyond", m, 2, 3, 0, 0);
        duePlace("two beyond that", m, 3, 5, 0, 0);
        m.draw(100);
        duePlace("drawn anew", m, 4, 0, 0, 0);
        m.room(1, 0);
        m.exit(0, W, 5, false);
        m.grow();
        duePlace("the first free one", m, 5, m.place(0, 0) - 2, 0, 0);
    }

    private static void growFromNothing() {
        MapDrawer m = with(5, 0, NW, 1, 3, UP, 4);
        check.due("grow", m.grow(), 0);
        duePlace("first", m, 0, 0, 0, 0);
        duePlace("joined", m, 1, -1, -1, 0);
        duePlace("alone", m, 2, 2, 0, 0);
        duePlace("alone", m, 3, 4, 0, 0);
        duePlace("above", m, 4, 4, 0, 1);
        check.due("steps", m.steps(), 0);
        check.due("least", m.least(0), NONE);
        check.due("grow again", m.grow(), 0);
        duePlace("nothing moves", m, 1, -1, -1, 0);
    }

    private static void growPlacesTheLeastJoinedRoomFirst() {
        // 2 and 3 are joined with 0 at once, 1 only by 3
        MapDrawer m = with(4, 0, E, 3, 1, W, 3, 0, SE, 2);
        m.grow();
        duePlace("2 is the least that is joined", m, 2, 1, 1, 0);
        duePlace("then 3", m, 3, 1, 0, 0);
        duePlace("then 1", m, 1, 2, 0, 0);
        // 2 comes ahead of 3, so that its first link, with 3, is none with a room that is placed
        m = with(4, 3, DOWN, 2, 0, E, 3, 2, E, 0);
        m.grow();
        duePlace("by the first link with one that is placed", m, 2, -1, 0, 0);
        duePlace("by its own first link", m, 3, -1, 0, 1);
    }

    private static void laterRoomsHaveNoPlace() {
        MapDrawer m = with(1);
        check.due("before", m.place(0, 0), -1002);
        m.draw(1);
        m.play(0, E, NONE);
        check.due("later", m.place(1, 0), -1002);
        check.due("placed", m.told(3), 1);
        check.due("straight", m.straight(0), NOT);
        m.grow();
        duePlace("grown", m, 1, 1, 0, 0);
        check.due("placed then", m.told(3), 2);
    }

    private static void straightTellsLoopsAndBends() {
        MapDrawer m = with(2, 0, N, 0, 0, E, 1, 0, W, 1, 1, UP, 1);
        check.due("not placed", m.straight(1), NOT);
        check.due("a loop that is not placed", m.straight(0), NOT);
        m.draw(100);
        check.due("a loop", m.straight(0), 0);
        check.due("straight", m.straight(1), 1);
        check.due("bent", m.straight(2), NONE);
        check.due("a loop by 8", m.straight(3), 0);
        check.due("straight(4)", m.straight(4), BAD);
        check.due("straight(-1)", m.straight(-1), BAD);
        m.cut(0);
        check.due("numbers move", m.straight(0), 1);
    }

    private static void linksBetweenPartsAreMeasured() {
        MapDrawer m = withRooms(24);
        m.draw(1);
        m.exit(0, E, 2, false);
        m.exit(0, NE, 1, false);
        m.exit(3, W, 2, false);
        m.exit(0, UP, 1, false);
        m.exit(0, S, 1, false);
        m.exit(23, E, 0, false);
        check.due("over a room", m.straight(0), NONE);
        check.due("not by that", m.straight(1), NONE);
        check.due("two apart", m.straight(2), 2);
        check.due("not above", m.straight(3), NONE);
        check.due("not south", m.straight(4), NONE);
        check.due("the other way", m.straight(5), NONE);
        check.due("cost", m.cost(), 10 + 10 + 1 + 10 + 10 + 10);
    }

    private static void costSkipsUnplacedRooms() {
        MapDrawer m = with(2, 0, E, 1, 1, E, 0);
        check.due("nothing is placed", m.cost(), 0);
        m.draw(100);
        check.due("one is bent", m.cost(), 10);
        m.room(1, 0);
        m.exit(2, N, 0, false);
        check.due("a room without a place", m.cost(), 10);
        m.exit(0, N, 0, false);
        check.due("a loop costs nothing", m.cost(), 10);
        m.cut(0);
        check.due("the other is bent still", m.cost(), 10);
        m.cut(0);
        check.due("nothing is bent", m.cost(), 0);
    }

    private static void placeAndToldAreRefused() {
        MapDrawer m = with(1);
        m.draw(1);
        check.due("place(1, 0)", m.place(1, 0), -1001);
        check.due("place(-1, 0)", m.place(-1, 0), -1001);
        check.due("place(0, -1)", m.place(0, -1), -1001);
        check.due("place(0, 3)", m.place(0, 3), -1001);
        check.due("told(-1)", m.told(-1), BAD);
        check.due("told(8)", m.told(8), BAD);
    }

    private static void theWholeIsMeasured() {
        MapDrawer m = with(7, 0, W, 1, 0, DOWN, 2, 2, DOWN, 3, 0, UP, 4, 4, S, 5);
        int[] before = {7, 5, 2, 0, 0, 0, 0, 0};
        int[] grown = {7, 5, 2, 7, -2, 1, 4, 2};
        for (int what = 0; what < 8; what++) {
            check.due("before: told(" + what + ")", m.told(what), before[what]);
        }
        m.grow();
        for (int what = 0; what < 8; what++) {
            check.due("grown: told(" + what + ")", m.told(what), grown[what]);
        }
        m.room(1, 0);
        check.due("rooms", m.told(0), 8);
        check.due("parts", m.told(2), 3);
        check.due("placed", m.told(3), 7);
        check.due("columns", m.told(6), 4);
        m = with(2, 0, SW, 1);
        m.draw(9);
        check.due("columns", m.told(6), 2);
        check.due("rows", m.told(7), 2);
        m = with(2, 0, DOWN, 1);
        m.draw(9);
        check.due("greatest level", m.told(5), 0);
        m = with(3, 0, UP, 1, 1, NW, 2);
        m.cut(0);
        m.draw(9);
        check.due("least level", m.told(4), 0);
    }
}
