/** Promise 18: far. */
public final class Promise18Test extends Promise {
    public static void main(String[] args) throws Exception {
        new Promise18Test().run();
    }

    @Says("How many LINKS the shortest way from a room to another one has (as they may be gone)")
    void oneWayIsGoneOneWay() {
        for (int direction = 0; direction <= 9; direction++) {
            Asked m = with(2, 0, direction, 1);
            due(m.far(0, 1), 1);
            due(m.far(1, 0), NONE);
            m = rooms(2);
            m.exit(0, direction, 1, true);
            due(m.far(0, 1), 1);
            due(m.far(1, 0), 1);
        }
    }

    @Says("How many LINKS the shortest way from a room to another one has")
    void toItselfThereIsNoLinkToGo() {
        Asked m = with(2, 0, E, 1, 1, N, 1);
        due(m.far(0, 0), 0);
        due(m.far(1, 1), 0);
        due(rooms(1).far(0, 0), 0);
        m = rooms(24);
        due(m.far(23, 23), 0);
    }

    @Says("How many LINKS the shortest way from a room to another one has")
    void theShortestOfSeveralIsTold() {
        Asked m = with(5, 0, N, 1, 1, N, 2, 2, N, 3, 0, DOWN, 4, 4, DOWN, 3);
        due(m.far(0, 3), 2);
        due(m.far(0, 2), 2);
        m.cut(4);
        due(m.far(0, 3), 3);
        m.exit(0, S, 3, false);
        due(m.far(0, 3), 1);
        m = with(5, 2, N, 4, 1, N, 2, 0, N, 1, 3, N, 4, 0, E, 3);
        due(m.far(0, 4), 2);
        due(m.far(1, 4), 2);
    }

    @Says("How many LINKS the shortest way from a room to another one has")
    void theLongestHas23() {
        Asked m = rooms(24);
        for (int r = 0; r < 23; r++) {
            m.exit(r, r % 10, r + 1, false);
        }
        due(m.far(0, 23), 23);
        due(m.far(23, 0), NONE);
        due(m.far(1, 23), 22);
        m = rooms(24);
        for (int r = 22; r >= 0; r--) {
            m.exit(r, r % 4, r + 1, true);
        }
        due(m.far(0, 23), 23);
        due(m.far(23, 0), 23);
    }

    @Says("NONE: there is none.")
    void withoutAWayThereIsNone() {
        Asked m = with(4, 0, E, 1, 2, E, 1, 3, N, 3);
        due(m.far(0, 2), NONE);
        due(m.far(1, 0), NONE);
        due(m.far(0, 3), NONE);
        due(m.far(3, 0), NONE);
        m.cut(0);
        due(m.far(0, 1), NONE);
    }

    @Says("BAD: a number is none that there is, or outside what is told")
    void roomsAreThoseThatThereAre() {
        Asked m = rooms(3);
        int[] none = {-1, 3, NONE, 23, 24, LEAST_INT, GREATEST_INT};
        for (int room : none) {
            due(m.far(room, 0), BAD);
            due(m.far(0, room), BAD);
            due(m.far(room, room), BAD);
        }
        due(m.far(2, 2), 0);
        due(m.far(0, 2), NONE);
    }
}
