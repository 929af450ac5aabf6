/** Promise 6: mark. */
public final class Promise06Test extends Promise {
    public static void main(String[] args) throws Exception {
        new Promise06Test().run();
    }

    @Says("A THING lies in a room, 0 .. 9")
    void aThingIsZeroToNine() {
        Asked m = rooms(1);
        int before = NONE;
        for (int thing = 0; thing <= 9; thing++) {
            due(m.mark(0, thing), before);
            before = thing;
        }
        int[] outside = {-1, 10, NOT, FULL, LEAST_INT, GREATEST_INT};
        for (int thing : outside) {
            due(m.mark(0, thing), BAD);
        }
        due(m.mark(0, 0), 9);
    }

    @Says("or none (NONE): what did (NONE).")
    void noneTakesItAway() {
        Asked m = rooms(2);
        due(m.mark(0, NONE), NONE);
        due(m.mark(0, 0), NONE);
        due(m.mark(1, 9), NONE);
        due(m.mark(0, NONE), 0);
        due(m.mark(0, NONE), NONE);
        due(m.mark(1, NONE), 9);
        due(m.mark(1, 3), NONE);
    }

    @Says("A THING lies in a room, 0 .. 9")
    void theSameMayLieInMany() {
        Asked m = rooms(24);
        for (int r = 0; r < 24; r++) {
            due(m.mark(r, 7), NONE);
        }
        for (int r = 0; r < 24; r++) {
            due(m.mark(r, 7), 7);
        }
    }

    @Says("BAD: a number is none that there is, or outside what is told")
    void aRoomIsOneThatThereIs() {
        Asked m = rooms(3);
        int[] none = {-1, 3, NONE, 23, 24, LEAST_INT, GREATEST_INT};
        for (int room : none) {
            due(m.mark(room, 0), BAD);
            due(m.mark(room, NONE), BAD);
        }
        due(m.mark(2, 0), NONE);
        due(m.room(1, 0), 3);
        due(m.mark(3, 0), NONE);
    }

    @Says("What is refused changes nothing.")
    void aRefusedMarkChangesNothing() {
        changesNothing(Promise::manifold, m -> {
            due(m.mark(0, 10), BAD);
            due(m.mark(3, -1), BAD);
            due(m.mark(6, 1), BAD);
            due(m.mark(-1, NONE), BAD);
        });
    }
}
