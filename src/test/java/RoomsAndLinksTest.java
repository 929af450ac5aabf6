/** Promises 1 to 10: rooms, links, things, parts. */
public final class RoomsAndLinksTest {
    private static final int BAD = MapDrawer.BAD;
    private static final int NONE = MapDrawer.NONE;
    private static final int NOT = MapDrawer.NOT;
    private static final int FULL = MapDrawer.FULL;
    private static final int[] OPPOSITE = {4, 5, 6, 7, 0, 1, 2, 3, 9, 8};

    private static final Check check = new Check("RoomsAndLinksTest");

    public static void main(String[] args) {
        aNewObjectIsEmpty();
        objectsShareNothing();
        roomsAreNumbered();
        roomsAreRefused();
        exitsLeadOneWayOrBoth();
        exitsAreRefused();
        loopsOfBothLeadOutTwice();
        refusalsComeInOrder();
        cutsMoveLinksUp();
        playMakesRoomsAndLinks();
        playTurnsALinkIntoOneOfBoth();
        playIsRefused();
        playOnAFullMap();
        thingsAreMarked();
        roomsAreAlike();
        linksTellOfThemselves();
        outIsRefused();
        partsAreNumberedByLeastRooms();
        check.end();
    }

    private static MapDrawer withRooms(int count) {
        MapDrawer m = new MapDrawer();
        for (int i = 0; i < count; i++) {
            m.room(1, 0);
        }
        return m;
    }

    private static void aNewObjectIsEmpty() {
        MapDrawer m = new MapDrawer();
        for (int what = 0; what <= 7; what++) {
            check.due("new told(" + what + ")", m.told(what), 0);
        }
        check.due("new part(0)", m.part(0), BAD);
        check.due("new link(0, 0)", m.link(0, 0), BAD);
        check.due("new out(0, 0)", m.out(0, 0), BAD);
        check.due("new cut(0)", m.cut(0), BAD);
        check.due("new alike(0)", m.alike(0), NONE);
        check.due("new steps()", m.steps(), 0);
        check.due("new cost()", m.cost(), 0);
        check.due("new least(0)", m.least(0), NONE);
        check.due("new sign(0, 0, 0)", m.sign(0, 0, 0), 32);
        check.due("new grow()", m.grow(), 0);
        check.due("new draw(1)", m.draw(1), 0);
        check.due("steps() of no rooms", m.steps(), 0);
        check.due("least(0) of no rooms", m.least(0), NONE);
    }

    private static void objectsShareNothing() {
        MapDrawer a = withRooms(2);
        a.exit(0, 2, 1, true);
        a.draw(10);
        MapDrawer b = withRooms(1);
        check.due("rooms of another object", b.told(0), 1);
        check.due("links of another object", b.told(1), 0);
        check.due("placed rooms of another object", b.told(3), 0);
    }

    private static void roomsAreNumbered() {
        MapDrawer m = new MapDrawer();
        for (int i = 0; i < 24; i++) {
            check.due("room", m.room(1 + i % 5, i % 10), i);
        }
        check.due("25th room", m.room(1, 0), FULL);
        check.due("25th room, bad", m.room(0, 0), BAD);
        check.due("told(0)", m.told(0), 24);
    }

    private static void roomsAreRefused() {
        MapDrawer m = new MapDrawer();
        int[][] bad = {{0, 0}, {6, 0}, {-1, 0}, {1, -1}, {1, 10}, {Integer.MIN_VALUE, 0}, {1, Integer.MAX_VALUE}};
        for (int[] b : bad) {
            check.due("room(" + b[0] + ", " + b[1] + ")", m.room(b[0], b[1]), BAD);
        }
        check.due("told(0) behind refusals", m.told(0), 0);
        check.due("room(5, 9)", m.room(5, 9), 0);
        check.due("room(1, 0)", m.room(1, 0), 1);
    }

    private static void exitsLeadOneWayOrBoth() {
        for (int d = 0; d < 10; d++) {
            MapDrawer m = withRooms(3);
            check.due("exit one way", m.exit(0, d, 1, false), 0);
            check.due("exit both", m.exit(1, d, 2, true), 1);
            for (int e = 0; e < 10; e++) {
                check.due("out(0, " + e + ")", m.out(0, e), e == d ? 0 : NONE);
                check.due("out(1, " + e + ")", m.out(1, e), e == d ? 1 : NONE);
                check.due("out(2, " + e + ")", m.out(2, e), e == OPPOSITE[d] ? 1 : NONE);
            }
        }
    }

    private static void exitsAreRefused() {
        MapDrawer m = withRooms(3);
        check.due("exit(3, 0, 0)", m.exit(3, 0, 0, false), BAD);
        check.due("exit(-1, 0, 0)", m.exit(-1, 0, 0, false), BAD);
        check.due("exit(0, -1, 0)", m.exit(0, -1, 0, false), BAD);
        check.due("exit(0, 10, 0)", m.exit(0, 10, 0, false), BAD);
        check.due("exit(0, 0, 3)", m.exit(0, 0, 3, false), BAD);
        check.due("exit(0, 0, NONE)", m.exit(0, 0, NONE, false), BAD);
        check.due("exit(0, 2, 1) of both", m.exit(0, 2, 1, true), 0);
        check.due("the same again", m.exit(0, 2, 1, true), NOT);
        check.due("to another by the same", m.exit(0, 2, 2, false), NOT);
        check.due("out of TO by the opposite", m.exit(1, 6, 2, false), NOT);
        check.due("both, the opposite is taken", m.exit(2, 2, 1, true), NOT);
        check.due("one way, the opposite is taken", m.exit(2, 2, 1, false), 1);
        check.due("links", m.told(1), 2);
    }

    private static void loopsOfBothLeadOutTwice() {
        for (int d = 0; d < 10; d++) {
            MapDrawer m = withRooms(1);
            check.due("loop of both", m.exit(0, d, 0, true), 0);
            check.due("out", m.out(0, d), 0);
            check.due("out by the opposite", m.out(0, OPPOSITE[d]), 0);
            check.due("the opposite is taken", m.exit(0, OPPOSITE[d], 0, false), NOT);
            m = withRooms(1);
            check.due("loop of one way", m.exit(0, d, 0, false), 0);
            check.due("out by the opposite of one way", m.out(0, OPPOSITE[d]), NONE);
            check.due("loop of both over it", m.exit(0, OPPOSITE[d], 0, true), NOT);
            check.due("loop by the opposite", m.exit(0, OPPOSITE[d], 0, false), 1);
        }
    }

    private static void refusalsComeInOrder() {
        MapDrawer m = fullOfLinks();
        check.due("61st link", m.exit(6, 0, 0, false), FULL);
        check.due("61st link, taken", m.exit(0, 0, 0, false), NOT);
        check.due("61st link, taken at TO", m.exit(6, 0, 0, true), NOT);
        check.due("61st link, bad", m.exit(0, 0, 24, false), BAD);
        check.due("cut one", m.cut(59), 59);
        check.due("60th link again", m.exit(6, 0, 0, false), 59);
    }

    /** 24 rooms; out of 0 to 5 a link leads by each direction to the next room. */
    private static MapDrawer fullOfLinks() {
        MapDrawer m = withRooms(24);
        for (int l = 0; l < 60; l++) {
            check.due("link " + l, m.exit(l / 10, l % 10, l / 10 + 1, false), l);
        }
        return m;
    }

    private static void cutsMoveLinksUp() {
        MapDrawer m = withRooms(4);
        m.exit(0, 0, 1, false);
        m.exit(1, 1, 2, true);
        m.exit(2, 2, 3, false);
        m.exit(3, 3, 3, true);
        check.due("cut(4)", m.cut(4), BAD);
        check.due("cut(-1)", m.cut(-1), BAD);
        check.due("cut(1)", m.cut(1), 3);
        check.due("out(1, 1)", m.out(1, 1), NONE);
        check.due("out(2, 5)", m.out(2, 5), NONE);
        check.due("out(2, 2)", m.out(2, 2), 1);
        check.due("out(3, 7)", m.out(3, 7), 2);
        check.due("link(1, 0)", m.link(1, 0), 2);
        check.due("link(1, 1)", m.link(1, 1), 2);
        check.due("link(1, 2)", m.link(1, 2), 3);
        check.due("link(1, 3)", m.link(1, 3), 0);
        check.due("link(2, 3)", m.link(2, 3), 1);
        check.due("link(2, 4)", m.link(2, 4), 1);
        check.due("link(3, 0)", m.link(3, 0), BAD);
        check.due("cut(2)", m.cut(2), 2);
        check.due("cut(0)", m.cut(0), 1);
        check.due("cut(0)", m.cut(0), 0);
        check.due("cut(0)", m.cut(0), BAD);
        check.due("told(1)", m.told(1), 0);
    }

    private static void playMakesRoomsAndLinks() {
        MapDrawer m = new MapDrawer();
        m.room(3, 4);
        m.room(3, 7);
        check.due("play to a new room", m.play(1, 3, NONE), 2);
        check.due("rooms", m.told(0), 3);
        check.due("links", m.told(1), 1);
        check.due("from", m.link(0, 0), 1);
        check.due("direction", m.link(0, 1), 3);
        check.due("to", m.link(0, 2), 2);
        check.due("both", m.link(0, 3), 0);
        check.due("the new room is of FROM's region", m.alike(7), 1);
        m.mark(1, 0);
        check.due("the new room has no thing", m.alike(7), 2);
        check.due("play the same way", m.play(1, 3, 2), 2);
        check.due("play to a room that is there", m.play(2, 0, 0), 0);
        check.due("links then", m.told(1), 2);
        check.due("play to the room itself", m.play(2, 1, 2), 2);
        check.due("a loop", m.link(2, 4), 1);
        m.grow();
        check.due("width 1", m.sign(0, 6 * m.place(2, 0) - 6 * leastX(m) + 1, 2 * m.place(2, 1) - 2 * leastY(m)), 32);
    }

    private static int leastX(MapDrawer m) {
        int least = m.place(0, 0);
        for (int r = 1; r < m.told(0); r++) {
            least = Math.min(least, m.place(r, 0));
        }
        return least;
    }

    private static int leastY(MapDrawer m) {
        int least = m.place(0, 1);
        for (int r = 1; r < m.told(0); r++) {
            least = Math.min(least, m.place(r, 1));
        }
        return least;
    }

    private static void playTurnsALinkIntoOneOfBoth() {
        for (int d = 0; d < 10; d++) {
            MapDrawer m = withRooms(3);
            m.play(0, d, 1);
            check.due("back by the opposite", m.play(1, OPPOSITE[d], 0), 0);
            check.due("still one link", m.told(1), 1);
            check.due("of both", m.link(0, 3), 1);
            check.due("its FROM stays", m.link(0, 0), 0);
            check.due("its DIRECTION stays", m.link(0, 1), d);
            check.due("back again", m.play(1, OPPOSITE[d], 0), 0);
            check.due("nothing comes", m.told(1), 1);
        }
        MapDrawer m = withRooms(3);
        m.play(0, 2, 1);
        check.due("from the other side of another room", m.play(1, 6, 2), 2);
        check.due("is a link of its own", m.told(1), 2);
        check.due("and not of both", m.link(0, 3), 0);
        m = withRooms(1);
        m.play(0, 0, 0);
        check.due("a loop back by the opposite", m.play(0, 4, 0), 0);
        check.due("one loop", m.told(1), 1);
        check.due("of both", m.link(0, 3), 1);
        m = withRooms(3);
        m.exit(2, 2, 1, true);
        check.due("beside one of both from elsewhere", m.play(0, 2, 1), 1);
        check.due("a new link", m.link(1, 0), 0);
    }

    private static void playIsRefused() {
        MapDrawer m = withRooms(3);
        check.due("play(3, 0, 0)", m.play(3, 0, 0), BAD);
        check.due("play(-1, 0, 0)", m.play(-1, 0, 0), BAD);
        check.due("play(0, -1, 0)", m.play(0, -1, 0), BAD);
        check.due("play(0, 10, 0)", m.play(0, 10, 0), BAD);
        check.due("play(0, 0, 3)", m.play(0, 0, 3), BAD);
        check.due("play(0, 0, -1)", m.play(0, 0, -1), BAD);
        check.due("play(0, 0, -3)", m.play(0, 0, -3), BAD);
        check.due("play(NONE, 0, 0)", m.play(NONE, 0, 0), BAD);
        m.exit(0, 2, 1, true);
        check.due("to another room", m.play(0, 2, 2), NOT);
        check.due("to a new one", m.play(0, 2, NONE), NOT);
        check.due("to another room, back", m.play(1, 6, 1), NOT);
        check.due("to a new one, back", m.play(1, 6, NONE), NOT);
        check.due("as it leads, back", m.play(1, 6, 0), 0);
        check.due("rooms", m.told(0), 3);
        check.due("links", m.told(1), 1);
    }

    private static void playOnAFullMap() {
        MapDrawer m = fullOfLinks();
        check.due("known way", m.play(0, 0, 1), 1);
        check.due("to another", m.play(0, 0, 2), NOT);
        check.due("to a new one, known", m.play(0, 0, NONE), NOT);
        check.due("no link is left", m.play(7, 0, 1), FULL);
        check.due("no room is left", m.play(7, 0, NONE), FULL);
        check.due("bad", m.play(7, 10, NONE), BAD);
        m.cut(59);
        check.due("links are left, rooms are not", m.play(7, 0, NONE), FULL);
        check.due("a link comes", m.play(7, 0, 1), 1);
        check.due("a way back needs no link", m.play(6, 4, 5), 5);
        check.due("links", m.told(1), 60);
        check.due("of both", m.link(m.out(6, 4), 3), 1);
        m = withRooms(7);
        for (int l = 0; l < 60; l++) {
            m.exit(l / 10, l % 10, l / 10 + 1, false);
        }
        check.due("rooms are left, links are not", m.play(6, 0, NONE), FULL);
        check.due("no room came", m.told(0), 7);
    }

    private static void thingsAreMarked() {
        MapDrawer m = withRooms(2);
        check.due("mark(0, 0)", m.mark(0, 0), NONE);
        check.due("mark(0, 9)", m.mark(0, 9), 0);
        check.due("mark(0, 10)", m.mark(0, 10), BAD);
        check.due("mark(0, -1)", m.mark(0, -1), BAD);
        check.due("mark(0, -3)", m.mark(0, -3), BAD);
        check.due("mark(2, 1)", m.mark(2, 1), BAD);
        check.due("mark(-1, 1)", m.mark(-1, 1), BAD);
        check.due("mark(0, NONE)", m.mark(0, NONE), 9);
        check.due("mark(0, 1)", m.mark(0, 1), NONE);
        check.due("mark(1, NONE)", m.mark(1, NONE), NONE);
    }

    private static void roomsAreAlike() {
        MapDrawer m = new MapDrawer();
        int[] region = {3, 4, 3, 3, 4, 9};
        for (int g : region) {
            m.room(1, g);
        }
        check.due("none has a thing", m.alike(3), 0);
        m.mark(0, 5);
        check.due("the second has none", m.alike(3), 2);
        m.mark(2, 6);
        m.mark(3, 5);
        check.due("the third has the first one's", m.alike(3), 3);
        m.mark(1, 5);
        m.mark(4, 9);
        check.due("another region's thing doesn't count", m.alike(4), NONE);
        m.mark(3, 9);
        check.due("all differ", m.alike(3), NONE);
        check.due("one room without", m.alike(9), 5);
        check.due("no room", m.alike(0), NONE);
        check.due("alike(-1)", m.alike(-1), BAD);
        check.due("alike(10)", m.alike(10), BAD);
        m.mark(0, NONE);
        check.due("none again", m.alike(3), 0);
    }

    private static void linksTellOfThemselves() {
        MapDrawer m = withRooms(3);
        m.exit(2, 9, 1, true);
        m.exit(1, 3, 1, false);
        int[][] want = {{2, 9, 1, 1, 0}, {1, 3, 1, 0, 1}};
        for (int l = 0; l < 2; l++) {
            for (int what = 0; what < 5; what++) {
                check.due("link(" + l + ", " + what + ")", m.link(l, what), want[l][what]);
            }
            check.due("link(" + l + ", 5)", m.link(l, 5), BAD);
            check.due("link(" + l + ", -1)", m.link(l, -1), BAD);
        }
        check.due("link(2, 0)", m.link(2, 0), BAD);
        check.due("link(-1, 0)", m.link(-1, 0), BAD);
    }

    private static void outIsRefused() {
        MapDrawer m = withRooms(1);
        check.due("out(0, -1)", m.out(0, -1), BAD);
        check.due("out(0, 10)", m.out(0, 10), BAD);
        check.due("out(1, 0)", m.out(1, 0), BAD);
        check.due("out(-1, 0)", m.out(-1, 0), BAD);
        check.due("out(0, 9)", m.out(0, 9), NONE);
    }

    private static void partsAreNumberedByLeastRooms() {
        MapDrawer m = withRooms(6);
        check.due("part(5)", m.part(5), 5);
        check.due("six parts", m.told(2), 6);
        m.exit(5, 0, 1, false);
        m.exit(4, 0, 2, true);
        dueParts(m, 0, 1, 2, 3, 2, 1);
        check.due("four parts", m.told(2), 4);
        m.exit(1, 1, 4, false);
        dueParts(m, 0, 1, 1, 2, 1, 1);
        m.exit(3, 3, 3, true);
        check.due("a loop joins none", m.told(2), 3);
        m.exit(5, 1, 0, false);
        dueParts(m, 0, 0, 0, 1, 0, 0);
        m.cut(2);
        dueParts(m, 0, 0, 1, 2, 1, 0);
        check.due("part(6)", m.part(6), BAD);
        check.due("part(-1)", m.part(-1), BAD);
        m = withRooms(24);
        for (int r = 22; r >= 0; r--) {
            m.exit(r + 1, 0, r, false);
        }
        check.due("a long chain is one part", m.told(2), 1);
        check.due("its last room", m.part(23), 0);
        m = withRooms(24);
        for (int r = 0; r < 23; r++) {
            m.exit(r + 1, 0, r, false);
        }
        check.due("the other way round, too", m.told(2), 1);
        check.due("its last room", m.part(23), 0);
    }

    private static void dueParts(MapDrawer m, int... want) {
        for (int r = 0; r < want.length; r++) {
            check.due("part(" + r + ")", m.part(r), want[r]);
        }
    }
}
