import java.util.Arrays;

/** Promise 13: least. */
public final class Promise13Test extends Promise {
    public static void main(String[] args) throws Exception {
        new Promise13Test().run();
    }

    @Says("NONE: no draw() was")
    void thereIsNoneBeforeADraw() {
        Asked m = rooms(24);
        for (int part = 0; part < 24; part++) {
            due(m.least(part), NONE);
        }
        due(m.draw(0), BAD);
        due(m.draw(20001), BAD);
        due(m.least(0), NONE);
    }

    @Says("The PART is LEAST, if all were tried.")
    void allAreTriedWithJustAsManySteps() {
        int[][] maps = {{1, 1}, {2, 4, 0, E, 1}, {3, 13, 0, E, 1, 1, E, 2}, {3, 3, 0, UP, 1, 1, UP, 2},
            {3, 3, 1, DOWN, 0, 2, DOWN, 0}, {2, 7, 0, E, 1, 1, W, 0}};
        for (int[] map : maps) {
            Asked m = with(map[0], Arrays.copyOfRange(map, 2, map.length));
            for (int steps = 1; steps <= map[1] + 2; steps++) {
                m.draw(steps);
                due(m.least(0), steps >= map[1] ? 1 : 0);
            }
        }
    }

    @Says("Whether a PART is LEAST by the latest draw()")
    void eachPartIsTold() {
        Asked m = with(6, 0, E, 1, 3, UP, 4);
        m.draw(3);
        due(m.least(0), 0);
        due(m.least(1), 1);
        due(m.least(2), 1);
        due(m.least(3), 1);
        due(m.least(4), NONE);
        m.draw(1);
        due(m.least(0), 0);
        due(m.least(1), 1);
        due(m.least(2), 0);
        due(m.least(3), 1);
        m.draw(4);
        due(m.least(0), 1);
        due(m.least(2), 1);
    }

    @Says("(behind that no grow())")
    void behindAGrowThereIsNone() {
        Asked m = with(3, 0, E, 1);
        m.draw(99);
        due(m.least(0), 1);
        m.grow();
        due(m.least(0), NONE);
        due(m.least(1), NONE);
        due(m.draw(0), BAD);
        due(m.least(0), NONE);
        m.draw(1);
        due(m.least(0), 0);
        due(m.least(1), 1);
    }

    @Says("or the PART was not there then")
    void aLaterPartHasNone() {
        Asked m = rooms(2);
        m.draw(1);
        due(m.least(1), 1);
        due(m.least(2), NONE);
        due(m.least(23), NONE);
        m.room(1, 0);
        due(m.least(2), NONE);
        m.draw(1);
        due(m.least(2), 1);
        due(m.least(3), NONE);
        m.exit(0, E, 1, false);
        m.draw(99);
        due(m.least(1), 1);
        due(m.least(2), NONE);
    }

    @Says("Whether a PART is LEAST by the latest draw()")
    void laterLinksChangeNothing() {
        Asked m = with(4, 0, E, 1);
        m.draw(2);
        m.exit(1, E, 2, false);
        m.exit(3, N, 3, false);
        due(m.told(2), 2);
        due(m.least(0), 0);
        due(m.least(1), 1);
        due(m.least(2), 1);
        m.cut(0);
        due(m.least(0), 0);
    }

    @Says("BAD: no such number (0 .. 23).")
    void aNumberIsZeroTo23() {
        Asked m = rooms(24);
        int[] outside = {-1, 24, NONE, LEAST_INT, GREATEST_INT};
        for (int part : outside) {
            due(m.least(part), BAD);
        }
        m.draw(1);
        for (int part : outside) {
            due(m.least(part), BAD);
        }
        for (int part = 0; part < 24; part++) {
            due(m.least(part), 1);
        }
        m.grow();
        for (int part : outside) {
            due(m.least(part), BAD);
        }
        due(m.least(23), NONE);
    }
}
