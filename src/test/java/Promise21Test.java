/** Promise 21: told. */
public final class Promise21Test extends Promise {
    public static void main(String[] args) throws Exception {
        new Promise21Test().run();
    }

    private void dueTold(Asked m, int... want) {
        for (int what = 0; what < want.length; what++) {
            due(m.told(what), want[what]);
        }
    }

    @Says("0 rooms, 1 LINKS, 2 PARTS, 3 rooms that are placed")
    void roomsLinksAndPartsAreCounted() {
        Asked m = with(4, 0, E, 1, 1, W, 0, 2, N, 2);
        dueTold(m, 4, 3, 3, 0);
        m.draw(99);
        dueTold(m, 4, 3, 3, 4);
        m.play(3, UP, NONE);
        dueTold(m, 5, 4, 3, 4);
        m.cut(3);
        dueTold(m, 5, 3, 4, 4);
        m.grow();
        dueTold(m, 5, 3, 4, 5);
    }

    @Says("0 rooms, 1 LINKS, 2 PARTS, 3 rooms that are placed")
    void theMostOfAll() {
        Asked m = fullOfLinks(24);
        dueTold(m, 24, 60, 18, 0);
        m.grow();
        due(m.told(3), 24);
        m = rooms(24);
        m.draw(1);
        dueTold(m, 24, 0, 24, 24, 0, 0, 47, 1);
    }

    @Says("4 the least level, 5 the greatest one")
    void levelsGoDownAndUp() {
        Asked m = with(2, 0, UP, 1);
        m.draw(9);
        dueTold(m, 2, 1, 1, 2, 0, 1, 1, 1);
        m = with(3, 0, DOWN, 1, 1, DOWN, 2);
        m.draw(9);
        dueTold(m, 3, 2, 1, 3, -2, 0, 1, 1);
        m = with(5, 0, DOWN, 1, 0, UP, 2, 2, UP, 3, 3, UP, 4);
        m.grow();
        dueTold(m, 5, 4, 1, 5, -1, 3, 1, 1);
    }

    @Says("6 columns of places (greatest x less the least one and 1), 7 rows of places")
    void columnsAndRowsOfAllLevelsAreCounted() {
        Asked m = rooms(1);
        m.draw(1);
        dueTold(m, 1, 0, 1, 1, 0, 0, 1, 1);
        m = with(5, 0, W, 1, 0, UP, 2, 2, S, 3, 3, S, 4);
        m.grow();
        dueTold(m, 5, 4, 1, 5, 0, 1, 2, 3);
        m = with(3, 0, NW, 1, 1, NW, 2);
        m.grow();
        dueTold(m, 3, 2, 1, 3, 0, 0, 3, 3);
        m.draw(1);
        dueTold(m, 3, 2, 1, 3, 0, 0, 3, 3);
        m = with(2, 0, E, 1);
        m.draw(9);
        dueTold(m, 2, 1, 1, 2, 0, 0, 2, 1);
        m = with(2, 0, S, 1);
        m.draw(9);
        dueTold(m, 2, 1, 1, 2, 0, 0, 1, 2);
    }

    @Says("rooms that came later have none")
    void roomsWithoutAPlaceDoNotCount() {
        Asked m = with(3, 0, E, 1, 1, E, 2);
        m.force(0, 5, 7, 3);
        m.force(2, 6, 9, 4);
        dueTold(m, 3, 2, 1, 2, 3, 4, 2, 3);
    }

    @Says("(4 to 7: 0, if no room is placed)")
    void withoutPlacesAllIsNought() {
        Asked m = with(3, 0, E, 1, 1, UP, 2);
        dueTold(m, 3, 2, 1, 0, 0, 0, 0, 0);
    }

    @Says("BAD: a number is none that there is, or outside what is told")
    void whatIsZeroToSeven() {
        Asked m = rooms(1);
        int[] outside = {-1, 8, NONE, LEAST_INT, GREATEST_INT};
        for (int what : outside) {
            due(m.told(what), BAD);
        }
        m.draw(1);
        for (int what : outside) {
            due(m.told(what), BAD);
        }
    }
}
