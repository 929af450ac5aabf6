/** Promise 7: alike. */
public final class Promise07Test extends Promise {
    public static void main(String[] args) throws Exception {
        new Promise07Test().run();
    }

    /** Rooms of a region with these things. */
    private static Asked region(int region, int... things) {
        Asked m = new Asked();
        for (int r = 0; r < things.length; r++) {
            m.room(1, region);
            m.mark(r, things[r]);
        }
        return m;
    }

    @Says("the first room of it that has a THING which an earlier one of it has, too, or has none")
    void aRoomAloneIsAlikeIfItHasNone() {
        due(region(3, NONE).alike(3), 0);
        due(region(3, 0).alike(3), NONE);
        due(region(3, 9).alike(3), NONE);
        due(region(0, NONE).alike(0), 0);
        due(region(9, NONE).alike(9), 0);
    }

    @Says("the first room of it that has a THING which an earlier one of it has, too, or has none")
    void itIsTheLaterOfTwo() {
        due(region(3, 5, 5).alike(3), 1);
        due(region(3, 0, 0).alike(3), 1);
        due(region(3, 9, 9).alike(3), 1);
        due(region(3, 5, 6, 5).alike(3), 2);
        due(region(3, 5, 6, 6, 5).alike(3), 2);
        due(region(3, 5, 6).alike(3), NONE);
    }

    @Says("the first room of it that has a THING which an earlier one of it has, too, or has none")
    void theFirstOfEitherKindIsTold() {
        due(region(3, 5, 5, NONE).alike(3), 1);
        due(region(3, 5, NONE, 5).alike(3), 1);
        due(region(3, 5, 6, NONE, 5).alike(3), 2);
        due(region(3, NONE, 5, 5).alike(3), 0);
    }

    @Says("the first room of it that has a THING which an earlier one of it has, too")
    void anotherRegionsThingDoesNotCount() {
        Asked m = new Asked();
        m.room(1, 1);
        m.room(1, 2);
        m.room(1, 1);
        m.mark(0, 4);
        m.mark(1, 4);
        m.mark(2, 5);
        due(m.alike(1), NONE);
        due(m.alike(2), NONE);
        m.mark(2, 4);
        due(m.alike(1), 2);
        due(m.alike(2), NONE);
        m.mark(1, NONE);
        due(m.alike(1), 2);
        due(m.alike(2), 1);
    }

    @Says("NONE: all have different ones.")
    void tenDifferAndElevenCannot() {
        Asked m = region(6, 9, 8, 7, 6, 5, 4, 3, 2, 1, 0);
        due(m.alike(6), NONE);
        m.room(1, 6);
        due(m.alike(6), 10);
        for (int thing = 0; thing <= 9; thing++) {
            m.mark(10, thing);
            due(m.alike(6), 10);
        }
    }

    @Says("NONE: all have different ones.")
    void aRegionWithoutRoomsHasNone() {
        Asked m = region(3, NONE, NONE);
        due(m.alike(2), NONE);
        due(m.alike(4), NONE);
        due(m.alike(0), NONE);
        due(m.alike(9), NONE);
    }

    @Says("the first room of it that has a THING which an earlier one of it has, too, or has none")
    void theLast24thRoomIsLookedAt() {
        Asked m = rooms(23);
        m.room(1, 8);
        due(m.alike(8), 23);
        m.mark(23, 3);
        due(m.alike(8), NONE);
    }

    @Says("BAD: a number is none that there is, or outside what is told")
    void aRegionIsZeroToNine() {
        Asked m = region(3, NONE);
        int[] outside = {-1, 10, NONE, LEAST_INT, GREATEST_INT};
        for (int region : outside) {
            due(m.alike(region), BAD);
        }
    }
}
