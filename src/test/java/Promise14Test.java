/** Promise 14: steps. */
public final class Promise14Test extends Promise {
    public static void main(String[] args) throws Exception {
        new Promise14Test().run();
    }

    @Says("0 before.")
    void thereAreNoneBeforeADraw() {
        Asked m = with(2, 0, E, 1);
        due(m.steps(), 0);
        m.grow();
        due(m.steps(), 0);
        due(m.draw(0), BAD);
        due(m.steps(), 0);
    }

    @Says("How many steps the latest draw() made in all PARTS")
    void allPartsAreAdded() {
        Asked m = with(6, 0, E, 1, 2, UP, 3, 4, S, 5);
        m.draw(20000);
        due(m.steps(), 4 + 2 + 4);
        m.draw(3);
        due(m.steps(), 3 + 2 + 3);
        m.draw(1);
        due(m.steps(), 1 + 1 + 1);
        m = rooms(24);
        m.draw(20000);
        due(m.steps(), 24);
    }

    @Says("How many steps the latest draw() made in all PARTS")
    void theMostOfAll() {
        // two parts, each with more than 20000 rows of chances
        Asked m = rooms(24);
        for (int r = 2; r < 24; r++) {
            m.exit(r - 2, E, r, false);
        }
        m.draw(20000);
        due(m.steps(), 40000);
    }

    @Says("How many steps the latest draw() made in all PARTS")
    void theLatestDrawAlone() {
        Asked m = with(2, 0, E, 1);
        m.draw(9);
        due(m.steps(), 4);
        m.draw(9);
        due(m.steps(), 4);
        due(m.draw(20001), BAD);
        due(m.steps(), 4);
        m.grow();
        due(m.steps(), 4);
        m.room(1, 0);
        m.cut(0);
        due(m.steps(), 4);
        m.draw(9);
        due(m.steps(), 3);
    }

    @Says("a step is that a room is placed (that of the least room is one)")
    void everyPlacedRoomIsAStep() {
        Asked m = rooms(1);
        m.draw(9);
        due(m.steps(), 1);
        m = with(3, 0, E, 1, 1, E, 2);
        m.draw(99);
        due(m.steps(), 1 + 3 + 9);
        m = with(3, 0, UP, 1, 2, DOWN, 0);
        m.draw(99);
        due(m.steps(), 1 + 1 + 1);
    }
}
