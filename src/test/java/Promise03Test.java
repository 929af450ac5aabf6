/** Promise 3: exit. */
public final class Promise03Test extends Promise {
    public static void main(String[] args) throws Exception {
        new Promise03Test().run();
    }

    @Says("BAD: a number is none that there is, or outside what is told")
    void fromIsARoom() {
        Asked m = rooms(3);
        int[] none = {-1, 3, NONE, 23, 24, LEAST_INT, GREATEST_INT};
        for (int from : none) {
            due(m.exit(from, N, 0, false), BAD);
            due(m.exit(from, N, 0, true), BAD);
        }
        due(m.exit(2, N, 0, false), 0);
    }

    @Says("BAD: a number is none that there is, or outside what is told")
    void toIsARoom() {
        Asked m = rooms(3);
        int[] none = {-1, 3, NONE, 23, 24, LEAST_INT, GREATEST_INT};
        for (int to : none) {
            due(m.exit(0, N, to, false), BAD);
            due(m.exit(0, N, to, true), BAD);
        }
        due(m.exit(0, N, 2, false), 0);
    }

    @Says("DIRECTIONS: 0 north, 1 north-east, 2 east, 3 south-east, 4 south, 5 south-west, 6 west, 7 north-west, 8 up, 9 down")
    void aDirectionIsZeroToNine() {
        Asked m = rooms(2);
        int[] none = {-1, 10, NONE, LEAST_INT, GREATEST_INT};
        for (int direction : none) {
            due(m.exit(0, direction, 1, false), BAD);
            due(m.exit(0, direction, 1, true), BAD);
        }
        for (int direction = 0; direction <= 9; direction++) {
            due(m.exit(0, direction, 1, false), direction);
        }
    }

    @Says("OPPOSITE are 0 and 4, 1 and 5, 2 and 6, 3 and 7, 8 and 9.")
    void ofBothItLeadsBackByTheOpposite() {
        for (int direction = 0; direction <= 9; direction++) {
            Asked m = rooms(2);
            due(m.exit(0, direction, 1, true), 0);
            int next = 1;
            for (int other = 0; other <= 9; other++) {
                due(m.exit(1, other, 0, false), other == OPPOSITE[direction] ? NOT : next++);
            }
        }
    }

    @Says("By one DIRECTION one LINK at most leads out of a room.")
    void itIsNotWhereOneLeadsOut() {
        Asked m = rooms(3);
        due(m.exit(0, E, 1, false), 0);
        due(m.exit(0, E, 1, false), NOT);
        due(m.exit(0, E, 2, false), NOT);
        due(m.exit(0, E, 0, false), NOT);
        due(m.exit(0, E, 2, true), NOT);
        due(m.told(1), 1);
    }

    @Says("NOT: a LINK leads out by that DIRECTION already (with both also out of TO by the OPPOSITE;")
    void withBothItIsNotWhereOneLeadsOutOfToByTheOpposite() {
        Asked m = with(3, 1, W, 2);
        due(m.exit(0, E, 1, true), NOT);
        due(m.exit(0, E, 1, false), 1);
        due(m.exit(0, N, 1, true), 2);
        m = rooms(3);
        m.exit(2, E, 1, true);
        due(m.exit(0, E, 1, true), NOT);
        due(m.exit(0, E, 1, false), 1);
    }

    @Says("A LINK (60 at most, numbered likewise) leads FROM a room by a DIRECTION TO a room (perhaps the same: a LOOP), one way, or both")
    void ofOneWayOthersMayLeadBack() {
        Asked m = with(2, 0, E, 1);
        due(m.exit(1, W, 0, false), 1);
        m = with(2, 0, E, 1);
        due(m.exit(1, W, 0, true), NOT);
    }

    @Says("a LOOP of both by 8 leads out by 8 and 9")
    void aLoopOfBothLeadsOutByTwo() {
        for (int direction = 0; direction <= 9; direction++) {
            Asked m = rooms(2);
            due(m.exit(0, direction, 0, true), 0);
            due(m.exit(0, direction, 1, false), NOT);
            due(m.exit(0, OPPOSITE[direction], 1, false), NOT);
            due(m.exit(1, direction, 0, true), NOT);
            due(m.exit(1, OPPOSITE[direction], 0, true), NOT);
            due(m.exit(1, direction, 0, false), 1);
        }
    }

    @Says("a LOOP of both by 8 leads out by 8 and 9")
    void aLoopOfOneWayLeadsOutByOne() {
        for (int direction = 0; direction <= 9; direction++) {
            Asked m = rooms(1);
            due(m.exit(0, direction, 0, false), 0);
            due(m.exit(0, OPPOSITE[direction], 0, true), NOT);
            due(m.exit(0, OPPOSITE[direction], 0, false), 1);
        }
    }

    @Says("A LINK (60 at most, numbered likewise)")
    void thereAre60AtMost() {
        Asked m = rooms(24);
        for (int l = 0; l < 60; l++) {
            due(m.exit(l / 10, l % 10, l / 10 + 1, false), l);
        }
        due(m.exit(6, N, 0, false), FULL);
        due(m.exit(23, N, 23, true), FULL);
        due(m.told(1), 60);
        due(m.cut(0), 59);
        due(m.exit(6, N, 0, false), 59);
        due(m.exit(7, N, 0, false), FULL);
    }

    @Says("Of several the first one in the order BAD, NOT, FULL, NONE.")
    void badIsAheadOfNotAndNotAheadOfFull() {
        Asked m = fullOfLinks(7);
        due(m.exit(0, N, 7, false), BAD);
        due(m.exit(7, N, 0, false), BAD);
        due(m.exit(0, 10, 0, false), BAD);
        due(m.exit(0, N, 3, false), NOT);
        due(m.exit(6, N, 0, true), NOT);
        due(m.exit(6, N, 0, false), FULL);
        due(m.exit(6, N, 6, true), FULL);
        m = with(2, 0, E, 1);
        due(m.exit(0, E, 2, false), BAD);
        due(m.exit(0, E, -1, true), BAD);
    }

    @Says("What is refused changes nothing.")
    void aRefusedExitChangesNothing() {
        changesNothing(Promise::manifold, m -> {
            due(m.exit(0, 10, 1, true), BAD);
            due(m.exit(6, N, 1, true), BAD);
            due(m.exit(1, N, 6, true), BAD);
            due(m.exit(0, E, 4, true), NOT);
            due(m.exit(4, E, 1, true), NOT);
        });
        changesNothing(() -> fullOfLinks(7), m -> due(m.exit(6, N, 0, false), FULL));
    }
}
