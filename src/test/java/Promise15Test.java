/** Promise 15: place. */
public final class Promise15Test extends Promise {
    public static void main(String[] args) throws Exception {
        new Promise15Test().run();
    }

    @Says("Of a room: 0 its x, 1 its y, 2 its level")
    void xYAndLevelAreTold() {
        Asked m = with(4, 0, E, 1, 1, E, 2, 2, UP, 3);
        m.exit(3, S, 3, false);
        m.draw(20000);
        duePlace(m, 3, 2, 0, 1);
        m = with(3, 0, SW, 1, 1, DOWN, 2);
        m.draw(99);
        duePlace(m, 0, 1, 0, 0);
        duePlace(m, 1, 0, 1, 0);
        duePlace(m, 2, 0, 1, -1);
    }

    @Says("Of a room: 0 its x, 1 its y, 2 its level")
    void placesBelowZeroAreNoRefusals() {
        Asked m = with(4, 0, NW, 1, 1, NW, 2, 2, DOWN, 3);
        m.grow();
        duePlace(m, 1, -1, -1, 0);
        duePlace(m, 2, -2, -2, 0);
        duePlace(m, 3, -2, -2, -1);
    }

    @Says("NONE less 1000 (-1002): it has no place.")
    void thereIsNoneBeforeADraw() {
        Asked m = rooms(2);
        duePlace(m, 0, -1002, -1002, -1002);
        duePlace(m, 1, -1002, -1002, -1002);
    }

    @Says("rooms that came later have none")
    void laterRoomsHaveNone() {
        Asked m = rooms(1);
        m.draw(1);
        m.room(1, 0);
        m.play(0, E, NONE);
        duePlace(m, 0, 0, 0, 0);
        duePlace(m, 1, -1002, -1002, -1002);
        duePlace(m, 2, -1002, -1002, -1002);
        m.grow();
        duePlace(m, 2, 1, 0, 0);
        duePlace(m, 1, 3, 0, 0);
        m.room(1, 0);
        duePlace(m, 3, -1002, -1002, -1002);
        duePlace(m, 1, 3, 0, 0);
    }

    @Says("BAD less 1000 (-1001).")
    void aRoomIsOneThatThereIs() {
        Asked m = rooms(3);
        int[] none = {-1, 3, NONE, 23, 24, LEAST_INT, GREATEST_INT};
        for (int room : none) {
            duePlace(m, room, -1001, -1001, -1001);
        }
        m.draw(1);
        for (int room : none) {
            duePlace(m, room, -1001, -1001, -1001);
        }
        duePlace(m, 2, 4, 0, 0);
    }

    @Says("BAD less 1000 (-1001).")
    void whatIsZeroToTwo() {
        Asked m = rooms(1);
        int[] outside = {-1, 3, NONE, LEAST_INT, GREATEST_INT};
        for (int what : outside) {
            due(m.place(0, what), -1001);
        }
        m.draw(1);
        for (int what : outside) {
            due(m.place(0, what), -1001);
        }
    }
}
