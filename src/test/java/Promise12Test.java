/** Promise 12: grow. */
public final class Promise12Test extends Promise {
    public static void main(String[] args) throws Exception {
        new Promise12Test().run();
    }

    @Says("x 2 above the greatest that there is (0, if no room is placed)")
    void theFirstRoomOfAllIsAtZero() {
        Asked m = rooms(1);
        due(m.grow(), 0);
        duePlace(m, 0, 0, 0, 0);
        m = with(2, 0, NW, 1);
        due(m.grow(), 0);
        duePlace(m, 0, 0, 0, 0);
        duePlace(m, 1, -1, -1, 0);
    }

    @Says("TO GROW: rooms that were placed before stay")
    void placedRoomsStayWhateverTheirLinks() {
        Asked m = with(3, 0, E, 1, 1, S, 2);
        m.draw(99);
        m.cut(0);
        m.exit(1, E, 0, false);
        due(m.grow(), 1);
        duePlace(m, 0, 0, 0, 0);
        duePlace(m, 1, 1, 0, 0);
        duePlace(m, 2, 1, 1, 0);
        m.play(0, W, NONE);
        m.play(0, N, NONE);
        due(m.grow(), 1);
        duePlace(m, 0, 0, 0, 0);
        duePlace(m, 1, 1, 0, 0);
        duePlace(m, 3, -1, 0, 0);
        duePlace(m, 4, 0, -1, 0);
        due(m.grow(), 1);
        duePlace(m, 3, -1, 0, 0);
    }

    @Says("the others are placed one by one, by first CHANCES (or the SPARE place), as above")
    void nothingButTheFirstChanceIsTried() {
        Asked m = with(3, 0, E, 1, 0, SE, 2, 2, NE, 1);
        due(m.grow(), 1);
        duePlace(m, 1, 1, 0, 0);
        duePlace(m, 2, 1, 1, 0);
        due(m.cost(), 10);
    }

    @Says("the others are placed one by one, by first CHANCES (or the SPARE place), as above")
    void threePlacesAreChancesAndTheFourthIsNot() {
        for (int direction = N; direction <= NW; direction++) {
            int back = OPPOSITE[direction];
            Asked m = with(5, 1, back, 0, 2, back, 0, 3, back, 0, 4, back, 0);
            due(m.grow(), 3);
            for (int d = 1; d <= 3; d++) {
                duePlace(m, d, d * EAST[direction], d * SOUTH[direction], 0);
            }
            duePlace(m, 4, direction == N ? -1 : 0, direction == N ? 0 : -1, 0);
        }
    }

    @Says("the others are placed one by one, by first CHANCES (or the SPARE place), as above")
    void aboveAndBelowIsOnePlace() {
        Asked m = with(3, 1, DOWN, 0, 2, DOWN, 0);
        due(m.grow(), 1);
        duePlace(m, 1, 0, 0, 1);
        duePlace(m, 2, 0, -1, 0);
        m = with(3, 1, UP, 0, 2, UP, 0);
        due(m.grow(), 1);
        duePlace(m, 1, 0, 0, -1);
        duePlace(m, 2, 0, -1, 0);
    }

    @Says("as above, the least room that has a LINK with one that is placed")
    void theLeastJoinedRoomComesFirst() {
        Asked m = with(4, 0, E, 3, 3, W, 1, 2, E, 0);
        m.grow();
        duePlace(m, 2, -1, 0, 0);
        duePlace(m, 3, 1, 0, 0);
        duePlace(m, 1, -2, 0, 0);
        m = with(3, 2, W, 0, 0, E, 1);
        m.grow();
        duePlace(m, 1, 1, 0, 0);
        duePlace(m, 2, 2, 0, 0);
    }

    @Says("as above, the least room that has a LINK with one that is placed")
    void joinedRoomsComeAheadOfOthers() {
        Asked m = with(3, 0, E, 2);
        due(m.grow(), 0);
        duePlace(m, 2, 1, 0, 0);
        duePlace(m, 1, 3, 0, 0);
        m = with(4, 1, E, 3);
        due(m.grow(), 0);
        duePlace(m, 1, 2, 0, 0);
        duePlace(m, 3, 3, 0, 0);
        duePlace(m, 2, 5, 0, 0);
    }

    @Says("when there is none such, but some room is not placed: the least one of these at y 0, level 0, x 2 above the greatest that there is")
    void roomsAloneLieTwoBeyond() {
        Asked m = rooms(24);
        due(m.grow(), 0);
        for (int r = 0; r < 24; r++) {
            duePlace(m, r, 2 * r, 0, 0);
        }
        m = with(3, 0, W, 1);
        m.grow();
        duePlace(m, 2, 2, 0, 0);
    }

    @Says("x 2 above the greatest that there is")
    void roomsOfAllLevelsAndRowsCount() {
        Asked m = with(4, 0, UP, 1, 1, SE, 2);
        due(m.grow(), 0);
        duePlace(m, 2, 1, 1, 1);
        duePlace(m, 3, 3, 0, 0);
        m = with(3, 0, SE, 1);
        m.grow();
        duePlace(m, 2, 3, 0, 0);
    }

    @Says("TO GROW: rooms that were placed before stay")
    void theWholeMapTakesPlaces() {
        // 1 is of another part, and lies two east of 0 when a third and a fourth room come beside
        Asked m = rooms(2);
        m.draw(1);
        m.play(0, E, NONE);
        m.room(1, 0);
        m.exit(3, W, 0, false);
        due(m.grow(), 1);
        duePlace(m, 2, 1, 0, 0);
        duePlace(m, 3, 3, 0, 0);
    }

    @Says("how many LINKS are BENT then (of those between rooms that are placed, now all)")
    void allRoomsArePlacedAndAllLinksCount() {
        Asked m = with(2, 0, E, 1, 1, E, 0);
        due(m.grow(), 1);
        m.exit(0, S, 1, false);
        m.exit(0, N, 0, true);
        due(m.grow(), 2);
        m.room(1, 0);
        m.exit(2, W, 1, false);
        m.exit(2, N, 1, false);
        due(m.told(3), 2);
        due(m.grow(), 3);
        due(m.told(3), 3);
        m.cut(1);
        due(m.grow(), 2);
        m = with(2, 0, E, 1);
        m.grow();
        m.cut(0);
        m.exit(0, W, 1, false);
        due(m.grow(), 1);
        m = with(3, 0, UP, 1, 1, E, 2, 2, DOWN, 0);
        due(m.grow(), 1);
    }
}
