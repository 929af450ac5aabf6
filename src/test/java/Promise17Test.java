/** Promise 17: cost. */
public final class Promise17Test extends Promise {
    public static void main(String[] args) throws Exception {
        new Promise17Test().run();
    }

    @Says("The COST of a placing: 10 for each BENT LINK, d - 1 for each STRAIGHT one.")
    void bentOnesCostTenEach() {
        Asked m = with(2, 0, E, 1);
        m.draw(9);
        due(m.cost(), 0);
        m.exit(1, E, 0, false);
        due(m.cost(), 10);
        m.exit(0, UP, 1, true);
        due(m.cost(), 20);
        m.cut(0);
        due(m.cost(), 20);
        m.cut(0);
        due(m.cost(), 10);
    }

    @Says("The COST of a placing: 10 for each BENT LINK, d - 1 for each STRAIGHT one.")
    void straightOnesCostTheirLengthLessOne() {
        for (int d = 1; d <= 60; d++) {
            Asked m = with(2, 0, SE, 1);
            m.force(0, 0, 0, 0);
            m.force(1, d, d, 0);
            due(m.cost(), d - 1);
        }
        Asked m = with(2, 0, SE, 1);
        m.force(0, 0, 0, 0);
        m.force(1, 61, 61, 0);
        due(m.cost(), 10);
    }

    @Says("The COST of a placing: 10 for each BENT LINK, d - 1 for each STRAIGHT one.")
    void aLinkOfBothCostsOnce() {
        Asked m = rooms(2);
        m.draw(1);
        m.exit(0, E, 1, true);
        due(m.cost(), 1);
        m.cut(0);
        m.exit(0, S, 1, true);
        due(m.cost(), 10);
    }

    @Says("else it is BENT (a LOOP is neither)")
    void loopsCostNothing() {
        Asked m = with(1, 0, E, 0, 0, UP, 0);
        m.exit(0, N, 0, true);
        due(m.draw(9), 0);
        due(m.cost(), 0);
    }

    @Says("of LINKS both of whose rooms have places")
    void linksOfRoomsWithoutPlacesCostNothing() {
        Asked m = with(2, 0, E, 1, 1, E, 0);
        due(m.cost(), 0);
        m.draw(99);
        due(m.cost(), 10);
        m.room(1, 0);
        m.exit(2, N, 0, false);
        m.exit(0, W, 2, false);
        m.exit(2, NE, 2, false);
        due(m.cost(), 10);
        m.grow();
        due(m.cost(), 20);
    }

    @Says("The COST of the placing that is now")
    void allPartsAndLinksBetweenThemCount() {
        Asked m = with(4, 0, E, 1, 1, E, 0, 2, E, 3, 3, E, 2);
        m.draw(99);
        due(m.cost(), 20);
        m.exit(1, W, 2, false);
        due(m.cost(), 30);
        m.exit(2, W, 1, false);
        due(m.cost(), 31);
    }

    @Says("The COST of the placing that is now")
    void theMostThatCanBe() {
        Asked m = rooms(24);
        m.draw(1);
        for (int l = 0; l < 60; l++) {
            int direction = l < 48 ? (l % 2 == 0 ? N : UP) : (l % 2 == 0 ? S : DOWN);
            due(m.exit(l / 2 % 24, direction, (l / 2 + 1) % 24, false), l);
        }
        due(m.cost(), 600);
    }
}
