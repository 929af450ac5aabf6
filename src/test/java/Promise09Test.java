/** Promise 9: out. */
public final class Promise09Test extends Promise {
    public static void main(String[] args) throws Exception {
        new Promise09Test().run();
    }

    @Says("The LINK that leads out of a room by a DIRECTION; NONE.")
    void ofOneWayItLeadsOutOfFromAlone() {
        for (int direction = 0; direction <= 9; direction++) {
            Asked m = with(2, 0, direction, 1);
            for (int by = 0; by <= 9; by++) {
                due(m.out(0, by), by == direction ? 0 : NONE);
                due(m.out(1, by), NONE);
            }
        }
    }

    @Says("then the one TO which it leads has it, too, by the OPPOSITE")
    void ofBothItLeadsOutOfToByTheOpposite() {
        for (int direction = 0; direction <= 9; direction++) {
            Asked m = rooms(2);
            m.exit(0, direction, 1, true);
            for (int by = 0; by <= 9; by++) {
                due(m.out(0, by), by == direction ? 0 : NONE);
                due(m.out(1, by), by == OPPOSITE[direction] ? 0 : NONE);
            }
        }
    }

    @Says("a LOOP of both by 8 leads out by 8 and 9")
    void aLoopOfBothLeadsOutByTwo() {
        for (int direction = 0; direction <= 9; direction++) {
            Asked m = rooms(1);
            m.exit(0, direction, 0, true);
            for (int by = 0; by <= 9; by++) {
                due(m.out(0, by), by == direction || by == OPPOSITE[direction] ? 0 : NONE);
            }
            m = with(1, 0, direction, 0);
            for (int by = 0; by <= 9; by++) {
                due(m.out(0, by), by == direction ? 0 : NONE);
            }
        }
    }

    @Says("The LINK that leads out of a room by a DIRECTION; NONE.")
    void theLastLinkOfTheLastRoomIsFound() {
        Asked m = rooms(24);
        for (int l = 0; l < 59; l++) {
            m.exit(l / 10, l % 10, 23, false);
        }
        due(m.out(23, DOWN), NONE);
        m.exit(23, DOWN, 0, false);
        due(m.out(23, DOWN), 59);
        m.cut(0);
        due(m.out(23, DOWN), 58);
        due(m.out(0, N), NONE);
        due(m.out(0, NE), 0);
    }

    @Says("BAD: a number is none that there is, or outside what is told")
    void aRoomIsOneThatThereIs() {
        Asked m = rooms(3);
        int[] none = {-1, 3, NONE, 23, 24, LEAST_INT, GREATEST_INT};
        for (int room : none) {
            due(m.out(room, N), BAD);
        }
        due(m.out(2, N), NONE);
    }

    @Says("BAD: a number is none that there is, or outside what is told")
    void aDirectionIsZeroToNine() {
        Asked m = with(1, 0, N, 0, 0, DOWN, 0);
        int[] outside = {-1, 10, NONE, LEAST_INT, GREATEST_INT};
        for (int direction : outside) {
            due(m.out(0, direction), BAD);
        }
        due(m.out(0, N), 0);
        due(m.out(0, DOWN), 1);
    }
}
