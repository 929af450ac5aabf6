/** Promise 5: play. */
public final class Promise05Test extends Promise {
    public static void main(String[] args) throws Exception {
        new Promise05Test().run();
    }

    private void dueLink(Asked m, int l, int from, int direction, int to, int both) {
        due(m.link(l, 0), from);
        due(m.link(l, 1), direction);
        due(m.link(l, 2), to);
        due(m.link(l, 3), both);
    }

    @Says("and come TO a room, or (NONE) to one that is new")
    void theNewOneHasTheNextNumber() {
        Asked m = rooms(2);
        due(m.play(1, SE, NONE), 2);
        due(m.told(0), 3);
        due(m.told(1), 1);
        dueLink(m, 0, 1, SE, 2, 0);
        due(m.play(2, SE, NONE), 3);
        due(m.play(2, NW, NONE), 4);
    }

    @Says("(WIDTH 1, REGION of the first)")
    void theNewOneIsOneWide() {
        Asked m = wide(4);
        m.play(0, E, NONE);
        m.grow();
        dueLevel(m, 0, "AAAA--B");
    }

    @Says("(WIDTH 1, REGION of the first)")
    void theNewOneIsOfTheRegionItIsReachedFrom() {
        Asked m = new Asked();
        m.room(1, 4);
        m.room(1, 7);
        m.mark(0, 1);
        m.mark(1, 1);
        due(m.play(1, E, NONE), 2);
        due(m.alike(7), 2);
        due(m.alike(4), NONE);
        due(m.mark(2, 2), NONE);
        due(m.alike(7), NONE);
    }

    @Says("a THING (none at first)")
    void theNewOneHasNoThing() {
        Asked m = rooms(1);
        m.mark(0, 5);
        m.play(0, E, NONE);
        due(m.alike(0), 1);
        due(m.mark(1, NONE), NONE);
    }

    @Says("A LINK of one way comes, if none leads out by that")
    void aLinkOfOneWayComes() {
        for (int direction = 0; direction <= 9; direction++) {
            Asked m = rooms(3);
            due(m.play(1, direction, 2), 2);
            due(m.told(0), 3);
            due(m.told(1), 1);
            dueLink(m, 0, 1, direction, 2, 0);
        }
    }

    @Says("(perhaps the same: a LOOP)")
    void oneMayComeBackToTheSameRoom() {
        Asked m = rooms(2);
        due(m.play(1, NW, 1), 1);
        dueLink(m, 0, 1, NW, 1, 0);
        due(m.link(0, 4), 1);
        due(m.out(1, SE), NONE);
    }

    @Says("A LINK of one way comes, if none leads out by that")
    void noneComesIfOneLeadsThere() {
        Asked m = with(3, 0, E, 1);
        due(m.play(0, E, 1), 1);
        due(m.told(1), 1);
        due(m.link(0, 3), 0);
        m = rooms(3);
        m.exit(0, E, 1, true);
        due(m.play(0, E, 1), 1);
        due(m.play(1, W, 0), 0);
        due(m.told(1), 1);
        due(m.link(0, 3), 1);
    }

    @Says("if there is one of one way from TO by the OPPOSITE that leads to FROM, that becomes one of both in place of it")
    void theWayBackMakesItOneOfBoth() {
        for (int direction = 0; direction <= 9; direction++) {
            Asked m = with(3, 2, N, 2, 0, direction, 1, 2, S, 2);
            due(m.play(1, OPPOSITE[direction], 0), 0);
            due(m.told(1), 3);
            dueLink(m, 1, 0, direction, 1, 1);
            due(m.link(0, 3), 0);
            due(m.link(2, 3), 0);
            due(m.out(1, OPPOSITE[direction]), 1);
        }
    }

    @Says("if there is one of one way from TO by the OPPOSITE that leads to FROM")
    void onlyOneByTheOppositeDoes() {
        for (int direction = 0; direction <= 9; direction++) {
            if (direction != W) {
                Asked m = with(2, 0, E, 1);
                due(m.play(1, direction, 0), 0);
                due(m.told(1), 2);
                due(m.link(0, 3), 0);
                dueLink(m, 1, 1, direction, 0, 0);
            }
        }
    }

    @Says("if there is one of one way from TO by the OPPOSITE that leads to FROM")
    void onlyOneThatLeadsToFromDoes() {
        Asked m = with(3, 0, E, 2);
        due(m.play(1, W, 0), 0);
        due(m.told(1), 2);
        due(m.link(0, 3), 0);
        dueLink(m, 1, 1, W, 0, 0);
    }

    @Says("if there is one of one way from TO by the OPPOSITE that leads to FROM")
    void oneOfBothFromElsewhereStays() {
        Asked m = rooms(3);
        m.exit(2, W, 0, true);
        due(m.play(1, W, 0), 0);
        due(m.told(1), 2);
        dueLink(m, 0, 2, W, 0, 1);
        dueLink(m, 1, 1, W, 0, 0);
    }

    @Says("if there is one of one way from TO by the OPPOSITE that leads to FROM")
    void aLoopBecomesOneOfBoth() {
        for (int direction = 0; direction <= 9; direction++) {
            Asked m = rooms(1);
            m.play(0, direction, 0);
            due(m.play(0, OPPOSITE[direction], 0), 0);
            due(m.told(1), 1);
            dueLink(m, 0, 0, direction, 0, 1);
        }
    }

    @Says("BAD: a number is none that there is, or outside what is told")
    void fromAndToAreRoomsAndToMayBeNone() {
        Asked m = rooms(3);
        int[] none = {-1, 3, NOT, FULL, 24, LEAST_INT, GREATEST_INT};
        for (int room : none) {
            due(m.play(room, N, 0), BAD);
            due(m.play(room, N, NONE), BAD);
            due(m.play(0, N, room), BAD);
        }
        due(m.play(NONE, N, 0), BAD);
        due(m.told(0), 3);
        due(m.told(1), 0);
        due(m.play(2, N, 2), 2);
    }

    @Says("BAD: a number is none that there is, or outside what is told")
    void aDirectionIsZeroToNine() {
        Asked m = rooms(3);
        int[] none = {-1, 10, NONE, LEAST_INT, GREATEST_INT};
        for (int direction : none) {
            due(m.play(0, direction, 1), BAD);
            due(m.play(0, direction, NONE), BAD);
        }
        due(m.play(0, DOWN, 1), 1);
        due(m.play(0, N, 1), 1);
    }

    @Says("NOT: a LINK leads out by that to another room")
    void itIsNotIfOneLeadsElsewhere() {
        Asked m = with(3, 0, E, 1, 2, W, 2);
        m.exit(1, S, 2, true);
        due(m.play(0, E, 2), NOT);
        due(m.play(0, E, 0), NOT);
        due(m.play(2, W, 1), NOT);
        due(m.play(1, S, 1), NOT);
        due(m.play(2, N, 0), NOT);
        due(m.told(1), 3);
    }

    @Says("(or TO is NONE, and there is one)")
    void itIsNotNewIfOneLeadsThere() {
        Asked m = with(3, 0, E, 1, 2, W, 2);
        m.exit(0, S, 2, true);
        due(m.play(0, E, NONE), NOT);
        due(m.play(2, W, NONE), NOT);
        due(m.play(0, S, NONE), NOT);
        due(m.play(2, N, NONE), NOT);
        due(m.told(0), 3);
        due(m.told(1), 3);
    }

    @Says("FULL: no room.")
    void no25thRoomComes() {
        Asked m = rooms(23);
        due(m.play(0, E, NONE), 23);
        due(m.play(0, N, NONE), FULL);
        due(m.told(0), 24);
        due(m.told(1), 1);
        due(m.play(0, N, 23), 23);
    }

    @Says("FULL: no room.")
    void no61stLinkComes() {
        Asked m = fullOfLinks(8);
        due(m.play(7, N, 0), FULL);
        due(m.play(7, N, 7), FULL);
        due(m.play(7, N, NONE), FULL);
        due(m.told(0), 8);
        due(m.told(1), 60);
        m.cut(59);
        due(m.play(7, N, NONE), 8);
        due(m.told(1), 60);
        due(m.play(7, S, NONE), FULL);
        due(m.told(0), 9);
    }

    @Says("that becomes one of both in place of it")
    void theWayBackNeedsNoLinkMore() {
        Asked m = with(8, 7, N, 6);
        for (int l = 0; l < 59; l++) {
            m.exit(l / 10, l % 10, l / 10 + 1, false);
        }
        due(m.told(1), 60);
        due(m.play(6, S, 7), 7);
        due(m.link(0, 3), 1);
        due(m.told(1), 60);
    }

    @Says("Of several the first one in the order BAD, NOT, FULL, NONE.")
    void badIsAheadOfNotAndNotAheadOfFull() {
        Asked m = fullOfLinks(24);
        due(m.play(0, N, 24), BAD);
        due(m.play(0, 10, NONE), BAD);
        due(m.play(24, N, NONE), BAD);
        due(m.play(0, N, 2), NOT);
        due(m.play(0, N, NONE), NOT);
        due(m.play(6, N, NONE), FULL);
        due(m.play(0, N, 1), 1);
        m = with(2, 0, E, 1);
        due(m.play(0, E, 2), BAD);
    }

    @Says("What is refused changes nothing.")
    void aRefusedPlayChangesNothing() {
        changesNothing(Promise::manifold, m -> {
            due(m.play(0, 10, NONE), BAD);
            due(m.play(6, N, NONE), BAD);
            due(m.play(0, N, 6), BAD);
            due(m.play(0, E, NONE), NOT);
            due(m.play(3, N, 1), NOT);
            due(m.play(1, W, 4), NOT);
        });
        changesNothing(() -> fullOfLinks(7), m -> {
            due(m.play(6, N, NONE), FULL);
            due(m.play(6, N, 0), FULL);
        });
        changesNothing(() -> rooms(24), m -> due(m.play(6, N, NONE), FULL));
    }
}
