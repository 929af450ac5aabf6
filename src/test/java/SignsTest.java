/** Promise 20: levels drawn as signs. */
public final class SignsTest {
    private static final int N = 0, NE = 1, E = 2, SE = 3, S = 4, SW = 5, W = 6, NW = 7, UP = 8, DOWN = 9;

    private static final Check check = new Check("SignsTest");

    public static void main(String[] args) {
        lettersAreAsWideAsRooms();
        stairsStandBehindLetters();
        stairsGiveWayToLetters();
        linesGoByAllDirections();
        longLines();
        longSlants();
        linesGiveWay();
        levelsAreDrawnEach();
        fromTheLeastPlaceOn();
        bentLinksAreNotDrawn();
        placesAreRefused();
        check.end();
    }

    /** Rooms of these widths. */
    private static MapDrawer wide(int... widths) {
        MapDrawer m = new MapDrawer();
        for (int w : widths) {
            m.room(w, 0);
        }
        return m;
    }

    private static void dueLevel(String name, MapDrawer m, int level, String... want) {
        for (int row = 0; row < want.length + 2; row++) {
            String line = row < want.length ? want[row] : "";
            for (int column = 0; column < line.length() + 8; column++) {
                int due = column < line.length() ? line.charAt(column) : 32;
                check.due(name + ": sign(" + level + ", " + column + ", " + row + ")", m.sign(level, column, row), due);
            }
        }
    }

    private static void lettersAreAsWideAsRooms() {
        MapDrawer m = wide(1, 2, 3, 4, 5);
        dueLevel("nothing is placed", m, 0, "");
        m.draw(1);
        dueLevel("widths", m, 0, "A           BB          CCC         DDDD        EEEEE");
        m = new MapDrawer();
        for (int r = 0; r < 24; r++) {
            m.room(1, 0);
        }
        m.draw(1);
        check.due("the last letter", m.sign(0, 23 * 12, 0), 'X');
    }

    private static void stairsStandBehindLetters() {
        MapDrawer m = wide(1, 2, 5, 5, 4);
        m.exit(0, UP, 0, false);
        m.exit(1, DOWN, 1, false);
        m.exit(2, UP, 2, true);
        m.exit(3, DOWN, 3, false);
        m.draw(1);
        dueLevel("stairs", m, 0, "A^          BBv         CCCCC^v     DDDDDv      EEEE");
        m.exit(4, DOWN, 0, false);
        check.due("a bent one is marked, too", m.sign(0, 48 + 4, 0), 118);
        check.due("one way: not where it leads", m.sign(0, 2, 0), 32);
        m.exit(4, UP, 0, true);
        dueLevel("more stairs", m, 0, "A^v         BBv         CCCCC^v     DDDDDv      EEEE^v");
        m.cut(0);
        m.play(0, UP, MapDrawer.NONE);
        check.due("to a room without a place", m.sign(0, 1, 0), 94);
    }

    private static void stairsGiveWayToLetters() {
        MapDrawer m = wide(5, 1);
        m.exit(0, E, 1, true);
        m.exit(0, UP, 0, true);
        m.draw(100);
        dueLevel("no room for 118", m, 0, "AAAAA^B");
        m = wide(5, 4);
        m.exit(0, E, 1, true);
        m.exit(0, DOWN, 0, false);
        m.draw(100);
        dueLevel("in place of the line", m, 0, "AAAAAvBBBB");
    }

    private static void linesGoByAllDirections() {
        MapDrawer m = wide(2, 1, 1, 3, 1, 1, 1, 1, 1);
        for (int d = 0; d < 8; d++) {
            m.exit(0, d, d + 1, d % 2 == 0);
        }
        check.due("draw", m.draw(9), 0);
        dueLevel("from the middle", m, 0,
                "I     B     C",
                "   \\  |  /",
                "H-----AA----DDD",
                "   /  |  \\",
                "G     F     E");
        m = wide(2, 1, 1, 3, 1, 1, 1, 1, 1);
        for (int d = 0; d < 8; d++) {
            m.exit(d + 1, d, 0, false);
        }
        check.due("draw", m.draw(9), 0);
        dueLevel("to the middle", m, 0,
                "E     F     G",
                "   \\  |  /",
                "DDD---AA----H",
                "   /  |  \\",
                "C     B     I");
    }

    private static void longLines() {
        MapDrawer m = wide(1, 1, 2, 1, 1);
        m.exit(0, E, 1, false);
        m.exit(0, S, 2, false);
        m.exit(2, E, 3, false);
        m.exit(3, E, 4, false);
        m.exit(4, N, 1, false);
        m.draw(20000);
        dueLevel("two places to the east", m, 0,
                "A-----------B",
                "|           |",
                "CC----D-----E");
        m = wide(1, 1, 1, 1, 1);
        m.exit(0, N, 1, false);
        m.exit(0, W, 2, false);
        m.exit(2, N, 3, false);
        m.exit(3, N, 4, false);
        m.exit(4, E, 1, false);
        m.draw(20000);
        dueLevel("two places to the north", m, 0,
                "E-----B",
                "|     |",
                "D     |",
                "|     |",
                "C-----A");
    }

    private static void longSlants() {
        MapDrawer m = wide(1, 1, 1, 1, 1);
        m.exit(0, SE, 1, false);
        m.exit(0, S, 2, false);
        m.exit(2, S, 3, false);
        m.exit(3, E, 4, false);
        m.exit(4, E, 1, false);
        check.due("draw", m.draw(20000), 0);
        dueLevel("to the south-east", m, 0,
                "A",
                "|  \\",
                "C",
                "|        \\",
                "D-----E-----B");
        m = wide(1, 1, 1, 1, 1);
        m.exit(1, SW, 0, false);
        m.exit(0, N, 2, false);
        m.exit(2, N, 3, false);
        m.exit(3, E, 4, false);
        m.exit(4, E, 1, false);
        check.due("draw", m.draw(20000), 0);
        dueLevel("to the south-west", m, 0,
                "D-----E-----B",
                "|        /",
                "C",
                "|  /",
                "A");
    }

    private static void linesGiveWay() {
        // 0 to 3 goes down where 1 to 2 goes across: the earlier link has the sign
        MapDrawer m = wide(1, 1, 1, 1);
        m.exit(0, SW, 1, false);
        m.exit(0, SE, 2, false);
        m.exit(1, E, 2, false);
        m.exit(1, SE, 3, false);
        m.exit(2, SW, 3, false);
        m.exit(0, S, 3, false);
        check.due("draw", m.draw(20000), 0);
        dueLevel("across first", m, 0,
                "      A",
                "   /  |  \\",
                "B-----------C",
                "   \\  |  /",
                "      D");
        m.cut(2);
        m.exit(1, E, 2, false);
        dueLevel("down first", m, 0,
                "      A",
                "   /  |  \\",
                "B-----|-----C",
                "   \\  |  /",
                "      D");
        // the links from 1 to 2 and from 0 to 3 cross between four places
        m = wide(1, 1, 1, 1);
        m.exit(0, E, 1, false);
        m.exit(0, S, 2, false);
        m.exit(2, E, 3, false);
        m.exit(1, SW, 2, false);
        m.exit(0, SE, 3, false);
        check.due("draw", m.draw(20000), 0);
        dueLevel("the earlier slant", m, 0,
                "A-----B",
                "|  /",
                "C-----D");
        m.cut(3);
        m.exit(1, SW, 2, true);
        check.due("the other one", m.sign(0, 3, 1), 92);
    }

    private static void levelsAreDrawnEach() {
        MapDrawer m = wide(1, 2, 3, 1);
        m.exit(0, UP, 1, true);
        m.exit(1, E, 2, true);
        m.exit(0, DOWN, 3, false);
        m.draw(100);
        dueLevel("level 0", m, 0, "A^v");
        dueLevel("level 1", m, 1, "BBv---CCC");
        dueLevel("level -1", m, -1, "D");
        dueLevel("level 2", m, 2, "");
        dueLevel("level -2", m, -2, "");
        check.due("the least level of all", m.sign(Integer.MIN_VALUE, 0, 0), 32);
        check.due("the greatest level of all", m.sign(Integer.MAX_VALUE, 0, 0), 32);
    }

    private static void fromTheLeastPlaceOn() {
        MapDrawer m = wide(1, 1, 1);
        m.exit(0, W, 1, false);
        m.exit(0, UP, 2, false);
        m.grow();
        dueLevel("to the west", m, 0, "B-----A^");
        dueLevel("above, as if the west were there", m, 1, "      C");
        m.room(1, 0);
        m.exit(2, NW, 3, false);
        m.grow();
        dueLevel("a row lower", m, 0, "", "", "B-----A^");
        dueLevel("above", m, 1, "D", "   \\", "      C");
    }

    private static void bentLinksAreNotDrawn() {
        MapDrawer m = wide(1, 1, 1);
        m.exit(0, E, 1, false);
        m.exit(1, E, 2, false);
        m.draw(100);
        m.cut(0);
        m.cut(0);
        m.exit(0, E, 2, false);
        m.exit(0, SE, 1, false);
        m.exit(0, N, 0, true);
        dueLevel("over a room", m, 0, "A     B     C");
    }

    private static void placesAreRefused() {
        MapDrawer m = wide(1);
        m.draw(1);
        check.due("sign(0, -1, 0)", m.sign(0, -1, 0), MapDrawer.BAD);
        check.due("sign(0, 0, -1)", m.sign(0, 0, -1), MapDrawer.BAD);
        check.due("sign(9, -1, 0)", m.sign(9, -1, 0), MapDrawer.BAD);
        check.due("sign(-1, 0, 0)", m.sign(-1, 0, 0), 32);
        int most = Integer.MAX_VALUE;
        check.due("sign far away", m.sign(0, most, most), 32);
        check.due("sign least", m.sign(0, Integer.MIN_VALUE, 0), MapDrawer.BAD);
        check.due("sign", m.sign(0, 0, 0), 65);
    }
}
