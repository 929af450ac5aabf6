/** Promise 10: part. */
public final class Promise10Test extends Promise {
    public static void main(String[] args) throws Exception {
        new Promise10Test().run();
    }

    private void dueParts(Asked m, int... want) {
        int most = 0;
        for (int r = 0; r < want.length; r++) {
            due(m.part(r), want[r]);
            most = Math.max(most, want[r]);
        }
        due(m.told(2), most + 1);
    }

    @Says("Rooms that LINKS join, one way or both, by one or more, are of one PART")
    void aRoomAloneIsAPart() {
        Asked m = rooms(24);
        for (int r = 0; r < 24; r++) {
            due(m.part(r), r);
        }
        due(m.told(2), 24);
    }

    @Says("Rooms that LINKS join, one way or both, by one or more, are of one PART")
    void oneWayJoinsWhoeverItLeadsTo() {
        dueParts(with(3, 0, E, 2), 0, 1, 0);
        dueParts(with(3, 2, E, 0), 0, 1, 0);
        Asked m = rooms(3);
        m.exit(2, E, 1, true);
        dueParts(m, 0, 1, 1);
    }

    @Says("Rooms that LINKS join, one way or both, by one or more, are of one PART")
    void moreThanOneJoinThroughOthers() {
        dueParts(with(5, 3, E, 1, 3, N, 4, 0, E, 2), 0, 1, 0, 1, 1);
        int[] down = new int[3 * 23];
        int[] up = new int[3 * 23];
        for (int l = 0; l < 23; l++) {
            down[3 * l] = 23 - l;
            down[3 * l + 2] = 22 - l;
            up[3 * l] = l + 1;
            up[3 * l + 2] = l;
        }
        dueParts(with(24, down), new int[24]);
        dueParts(with(24, up), new int[24]);
    }

    @Says("(perhaps the same: a LOOP)")
    void aLoopJoinsNone() {
        dueParts(with(3, 0, E, 0, 2, N, 2), 0, 1, 2);
    }

    @Says("PARTS are numbered 0, 1, .. in the order of their least rooms.")
    void theLeastRoomTellsTheOrder() {
        dueParts(with(6, 5, N, 1, 4, N, 2), 0, 1, 2, 3, 2, 1);
        dueParts(with(6, 4, N, 3, 5, N, 0), 0, 1, 2, 3, 3, 0);
        dueParts(with(6, 3, N, 4, 4, N, 5, 5, N, 2), 0, 1, 2, 2, 2, 2);
    }

    @Says("PARTS are numbered 0, 1, .. in the order of their least rooms.")
    void numbersGoByTheLinksThatAre() {
        Asked m = with(4, 0, E, 1, 1, E, 2, 2, E, 3);
        dueParts(m, 0, 0, 0, 0);
        m.cut(1);
        dueParts(m, 0, 0, 1, 1);
        m.cut(0);
        dueParts(m, 0, 1, 2, 2);
        m.play(3, UP, 0);
        dueParts(m, 0, 1, 0, 0);
        m.play(1, UP, NONE);
        dueParts(m, 0, 1, 0, 0, 1);
    }

    @Says("BAD: a number is none that there is, or outside what is told")
    void aRoomIsOneThatThereIs() {
        Asked m = rooms(3);
        int[] none = {-1, 3, NONE, 23, 24, LEAST_INT, GREATEST_INT};
        for (int room : none) {
            due(m.part(room), BAD);
        }
        due(m.part(2), 2);
    }
}
