/** Promise 2: room. */
public final class Promise02Test extends Promise {
    public static void main(String[] args) throws Exception {
        new Promise02Test().run();
    }

    @Says("1 ROOMS, 24 at most, have numbers 0, 1, .. as they come")
    void thereAre24AtMost() {
        Asked m = new Asked();
        for (int r = 0; r < 24; r++) {
            due(m.room(1 + r % 5, r % 10), r);
        }
        due(m.room(1, 0), FULL);
        due(m.room(5, 9), FULL);
        due(m.told(0), 24);
    }

    @Says("1 ROOMS, 24 at most, have numbers 0, 1, .. as they come")
    void roomsOfPlayCount() {
        Asked m = rooms(22);
        due(m.play(0, N, NONE), 22);
        due(m.room(1, 0), 23);
        due(m.room(1, 0), FULL);
    }

    @Says("each a WIDTH (1 ..")
    void aWidthIsOneToFive() {
        Asked m = new Asked();
        int[] outside = {0, 6, -1, NONE, LEAST_INT, GREATEST_INT};
        for (int width : outside) {
            due(m.room(width, 0), BAD);
        }
        for (int width = 1; width <= 5; width++) {
            due(m.room(width, 0), width - 1);
        }
    }

    @Says("5), a REGION (0 .. 9)")
    void aRegionIsZeroToNine() {
        Asked m = new Asked();
        int[] outside = {-1, 10, NONE, LEAST_INT, GREATEST_INT};
        for (int region : outside) {
            due(m.room(1, region), BAD);
        }
        for (int region = 0; region <= 9; region++) {
            due(m.alike(region), NONE);
            due(m.room(1, region), region);
            due(m.alike(region), region);
        }
    }

    @Says("a THING (none at first)")
    void noThingLiesThereAtFirst() {
        Asked m = rooms(24);
        for (int r = 0; r < 24; r++) {
            due(m.mark(r, 0), NONE);
        }
    }

    @Says("A room of a WIDTH and a REGION: its number.")
    void theWidthIsDrawn() {
        for (int width = 1; width <= 5; width++) {
            Asked m = wide(width);
            m.draw(1);
            dueLevel(m, 0, "AAAAA".substring(0, width));
        }
    }

    @Says("Of several the first one in the order BAD, NOT, FULL, NONE.")
    void badComesAheadOfFull() {
        Asked m = rooms(24);
        due(m.room(0, 0), BAD);
        due(m.room(6, 0), BAD);
        due(m.room(1, -1), BAD);
        due(m.room(1, 10), BAD);
        due(m.room(1, 0), FULL);
    }

    @Says("What is refused changes nothing.")
    void aRefusedRoomChangesNothing() {
        changesNothing(Promise::manifold, m -> {
            due(m.room(0, 0), BAD);
            due(m.room(6, 3), BAD);
            due(m.room(1, 10), BAD);
            due(m.room(1, -1), BAD);
        });
        changesNothing(() -> rooms(24), m -> due(m.room(1, 0), FULL));
    }
}
