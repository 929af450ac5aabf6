/** Promise 19: step. */
public final class Promise19Test extends Promise {
    public static void main(String[] args) throws Exception {
        new Promise19Test().run();
    }

    private void dueWay(Asked m, int from, int to, int... want) {
        for (int k = 0; k < want.length; k++) {
            due(m.step(from, to, k), want[k]);
        }
        int[] outside = {-1, NONE, want.length, want.length + 1, LEAST_INT, GREATEST_INT};
        for (int k : outside) {
            due(m.step(from, to, k), NONE);
        }
    }

    @Says("The k-th DIRECTION of that way, from 0")
    void eachDirectionOfTheWayIsTold() {
        Asked m = with(4, 0, E, 1, 1, UP, 2, 2, SW, 3);
        dueWay(m, 0, 1, E);
        dueWay(m, 0, 2, E, UP);
        dueWay(m, 0, 3, E, UP, SW);
        dueWay(m, 1, 3, UP, SW);
    }

    @Says("The k-th DIRECTION of that way, from 0")
    void backItGoesByTheOpposite() {
        for (int direction = 0; direction <= 9; direction++) {
            Asked m = rooms(2);
            m.exit(0, direction, 1, true);
            dueWay(m, 0, 1, direction);
            dueWay(m, 1, 0, OPPOSITE[direction]);
        }
    }

    @Says("(of several shortest ways that with the least DIRECTION where two first differ)")
    void theLeastDirectionWhereTheyDiffer() {
        // by 3 and 9, though 5 and 0 is a way as well
        Asked m = with(6, 0, SW, 1, 0, SE, 2, 1, N, 4, 2, DOWN, 4, 4, NW, 5, 4, W, 5);
        dueWay(m, 0, 4, SE, DOWN);
        dueWay(m, 0, 5, SE, DOWN, W);
        dueWay(m, 4, 5, W);
        // the direction of a link of both is that by which it is gone
        m.exit(3, S, 0, true);
        m.exit(4, E, 3, true);
        dueWay(m, 0, 3, N);
        dueWay(m, 3, 4, W);
        dueWay(m, 0, 4, N, W);
    }

    @Says("(of several shortest ways that with the least DIRECTION where two first differ)")
    void aLongerWayNeverCounts() {
        Asked m = with(4, 0, N, 1, 1, N, 2, 0, DOWN, 2, 0, NE, 0);
        dueWay(m, 0, 2, DOWN);
        m = with(4, 0, N, 1, 1, N, 2, 2, N, 3, 0, E, 2);
        dueWay(m, 0, 3, E, N);
        m = with(5, 2, N, 4, 1, N, 2, 0, N, 1, 3, N, 4, 0, E, 3);
        dueWay(m, 0, 4, E, N);
    }

    @Says("The k-th DIRECTION of that way, from 0")
    void theLongestWayIsTold() {
        Asked m = rooms(24);
        int[] want = new int[23];
        for (int r = 0; r < 23; r++) {
            want[r] = r % 10;
            m.exit(r, want[r], r + 1, false);
        }
        dueWay(m, 0, 23, want);
    }

    @Says("NONE: none such (k below 0, too).")
    void toItselfAndWhereNoWayIsThereIsNone() {
        Asked m = with(3, 0, E, 1, 1, N, 1);
        dueWay(m, 0, 0);
        dueWay(m, 1, 1);
        dueWay(m, 1, 0);
        dueWay(m, 0, 2);
    }

    @Says("Of several the first one in the order BAD, NOT, FULL, NONE.")
    void badComesAheadOfNone() {
        Asked m = rooms(3);
        int[] none = {-1, 3, NONE, 23, 24, LEAST_INT, GREATEST_INT};
        for (int room : none) {
            due(m.step(room, 0, 0), BAD);
            due(m.step(0, room, 0), BAD);
            due(m.step(room, 0, -1), BAD);
            due(m.step(0, room, GREATEST_INT), BAD);
        }
        due(m.step(2, 0, -1), NONE);
    }
}
