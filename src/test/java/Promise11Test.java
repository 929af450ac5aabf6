/** Promise 11: draw, and how the Terms place a PART and DRAW. */
public final class Promise11Test extends Promise {
    public static void main(String[] args) throws Exception {
        new Promise11Test().run();
    }

    /** Rooms one east of the other: 1 + 3 + 9 + .. steps try all. */
    private static Asked row(int rooms) {
        Asked m = rooms(rooms);
        for (int r = 1; r < rooms; r++) {
            m.exit(r - 1, E, r, false);
        }
        return m;
    }

    /** A row below room 0, and a last room north of its end whose link goes back west to room 0. */
    private static Asked rowAndBack(int rooms) {
        Asked m = with(rooms, 0, S, 1);
        for (int r = 2; r < rooms - 1; r++) {
            m.exit(r - 1, E, r, false);
        }
        m.exit(rooms - 2, N, rooms - 1, false);
        m.exit(rooms - 1, W, 0, false);
        return m;
    }

    @Says("DRAWN with so many steps (1 .. 20000)")
    void stepsAreOneTo20000() {
        Asked m = with(2, 0, E, 1);
        int[] outside = {0, -1, NONE, 20001, LEAST_INT, GREATEST_INT};
        for (int steps : outside) {
            due(m.draw(steps), BAD);
        }
        due(m.told(3), 0);
        due(m.draw(1), 0);
        due(m.told(3), 2);
        due(m.draw(20000), 0);
    }

    @Says("When n steps of this PART were made, no further one is (no more is tried then).")
    void asManyStepsAreMadeAsAreToldAndNoMore() {
        Asked m = row(10);
        int[] told = {1, 2, 9, 10, 11, 19999, 20000};
        for (int steps : told) {
            due(m.draw(steps), 0);
            due(m.steps(), steps);
        }
        m = row(9);
        due(m.draw(20000), 0);
        due(m.steps(), 9841);
    }

    @Says("how many LINKS are BENT")
    void loopsAreNotBent() {
        due(with(2, 0, E, 1).draw(9), 0);
        due(with(2, 0, E, 1, 1, E, 0).draw(99), 1);
        due(with(2, 0, E, 1, 1, E, 0, 0, S, 1, 0, UP, 1).draw(99), 3);
        due(with(1, 0, E, 0, 0, UP, 0).draw(9), 0);
    }

    @Says("how many LINKS are BENT")
    void theFirstLinkAndTheLastCount() {
        // south two links are straight, east one
        Asked m = with(2, 0, E, 1, 0, S, 1, 1, N, 0);
        due(m.draw(99), 1);
        due(m.straight(0), NONE);
        duePlace(m, 1, 0, 1, 0);
        m = with(2, 0, S, 1, 1, N, 0, 0, E, 1);
        due(m.draw(99), 1);
        due(m.straight(2), NONE);
    }

    @Says("by 8, 9 what has the same x and y, on the level above, below, for any d")
    void upBesideIsBent() {
        Asked m = with(3, 0, UP, 1, 1, E, 2, 2, DOWN, 0);
        due(m.draw(99), 1);
        due(m.cost(), 10);
        duePlace(m, 2, 1, 0, 1);
    }

    @Says("A LINK (60 at most, numbered likewise)")
    void sixtyLinksOf24RoomsAreDrawn() {
        // a row with a link each way, but one to the last room; others lead up, where no room is
        Asked m = rooms(24);
        for (int r = 0; r < 22; r++) {
            m.exit(r, E, r + 1, false);
            m.exit(r + 1, W, r, false);
        }
        for (int r = 7; r < 22; r++) {
            m.exit(r, UP, r + 1, false);
        }
        due(m.exit(22, E, 23, false), 59);
        due(m.draw(24), 15);
        due(m.told(3), 24);
        duePlace(m, 9, 9, 0, 0);
        duePlace(m, 23, 23, 0, 0);
        m.grow();
        duePlace(m, 23, 23, 0, 0);
    }

    @Says("its least room at x, y, level 0")
    void theLeastRoomOfEachPartIsOnLevelZero() {
        Asked m = with(4, 1, UP, 0, 2, DOWN, 3);
        due(m.draw(9), 0);
        duePlace(m, 0, 0, 0, 0);
        duePlace(m, 1, 0, 0, -1);
        duePlace(m, 2, 2, 0, 0);
        duePlace(m, 3, 2, 0, -1);
    }

    @Says("the least room of the PART that is not, and has a LINK with one that is")
    void theLeastComesNext() {
        Asked m = with(3, 2, W, 0, 0, E, 1);
        m.draw(1);
        duePlace(m, 1, 1, 0, 0);
        duePlace(m, 2, 2, 0, 0);
    }

    @Says("the least room of the PART that is not, and has a LINK with one that is")
    void aLesserOneWithoutALinkWaits() {
        // 0, 2, 3, and only then 1, which is joined with 3 alone and finds its first two places taken
        Asked m = with(4, 0, E, 3, 3, W, 1, 2, E, 0);
        m.draw(1);
        duePlace(m, 1, 0, 0, 0);
        duePlace(m, 2, 1, 0, 0);
        duePlace(m, 0, 2, 0, 0);
        duePlace(m, 3, 3, 0, 0);
    }

    @Says("for d = 1, 2, 3 (8, 9: 1): where it lies at DISTANCE d so that the LINK goes by its DIRECTION")
    void aPairLiesByTheLinksDirection() {
        for (int direction = 0; direction <= 9; direction++) {
            Asked m = with(2, 0, direction, 1);
            due(m.draw(9), 0);
            due(m.place(1, 0) - m.place(0, 0), EAST[direction]);
            due(m.place(1, 1) - m.place(0, 1), SOUTH[direction]);
            due(m.place(1, 2), RISE[direction]);
            m = with(2, 1, direction, 0);
            due(m.draw(9), 0);
            due(m.place(1, 0) - m.place(0, 0), -EAST[direction]);
            due(m.place(1, 1) - m.place(0, 1), -SOUTH[direction]);
            due(m.place(1, 2), -RISE[direction]);
        }
    }

    @Says("for d = 1, 2, 3 (8, 9: 1)")
    void threePlacesAreChancesAndTheFourthIsNot() {
        for (int direction = N; direction <= NW; direction++) {
            int back = OPPOSITE[direction];
            Asked m = with(5, 1, back, 0, 2, back, 0, 3, back, 0, 4, back, 0);
            m.draw(1);
            int x = m.place(0, 0);
            int y = m.place(0, 1);
            for (int d = 1; d <= 3; d++) {
                duePlace(m, d, x + d * EAST[direction], y + d * SOUTH[direction], 0);
            }
            boolean north = direction == N;
            duePlace(m, 4, north ? x - 1 : x, north ? y : y - 1, 0);
        }
    }

    @Says("for d = 1, 2, 3 (8, 9: 1)")
    void upAndDownHaveOneChance() {
        Asked m = with(3, 1, DOWN, 0, 2, DOWN, 0);
        due(m.draw(99), 1);
        due(m.steps(), 3);
        duePlace(m, 0, 0, 1, 0);
        duePlace(m, 1, 0, 1, 1);
        duePlace(m, 2, 0, 0, 0);
        m = with(3, 1, UP, 0, 2, UP, 0);
        due(m.draw(99), 1);
        due(m.steps(), 3);
        duePlace(m, 1, 0, 1, -1);
        duePlace(m, 2, 0, 0, 0);
    }

    @Says("for each LINK, by numbers, between it and one that is placed")
    void theLeastLinkTellsTheFirstChance() {
        Asked m = with(2, 0, S, 1, 1, W, 0);
        m.draw(2);
        duePlace(m, 1, 0, 1, 0);
        m = with(2, 1, W, 0, 0, S, 1);
        m.draw(2);
        duePlace(m, 1, 1, 0, 0);
        m = with(3, 0, E, 1, 1, S, 2, 0, S, 2);
        m.draw(3);
        duePlace(m, 2, 1, 1, 0);
        m = with(3, 0, E, 1, 0, S, 2, 1, S, 2);
        m.draw(3);
        duePlace(m, 2, 0, 1, 0);
    }

    @Says("if no room is there")
    void aPlaceThatIsTakenIsNoChance() {
        Asked m = with(3, 0, E, 1, 1, W, 2);
        m.draw(3);
        duePlace(m, 2, 0, 0, 0);
        duePlace(m, 0, 1, 0, 0);
        duePlace(m, 1, 2, 0, 0);
        m.draw(20000);
        due(m.steps(), 1 + 3 + 6);
    }

    @Says("if no room is there")
    void aRoomOnAnotherLevelIsNotThere() {
        Asked m = with(4, 0, E, 1, 0, UP, 2, 2, E, 3);
        due(m.draw(20000), 0);
        duePlace(m, 1, 1, 0, 0);
        duePlace(m, 3, 1, 0, 1);
        due(m.steps(), 1 + 3 + 3 + 9);
    }

    @Says("(a place that comes again is a CHANCE again)")
    void aPlaceThatComesAgainIsTriedAgain() {
        Asked m = with(2, 0, E, 1, 1, W, 0);
        due(m.draw(20000), 0);
        due(m.steps(), 1 + 6);
        m = with(2, 0, UP, 1, 1, DOWN, 0);
        due(m.draw(20000), 0);
        due(m.steps(), 1 + 2);
    }

    @Says("If it has no CHANCE: the SPARE place")
    void withAChanceNoSparePlaceIsTried() {
        Asked m = with(2, 0, UP, 1);
        due(m.draw(20000), 0);
        due(m.steps(), 2);
        // the first link has no chance, as 0 lies there; the second one has
        m = with(3, 0, UP, 1, 1, DOWN, 2, 0, DOWN, 2);
        due(m.draw(20000), 1);
        due(m.steps(), 3);
        duePlace(m, 2, 0, 0, -1);
    }

    @Says("the free one nearest to that room (how far x and y are apart, added), of these the least y, then the least x")
    void theSparePlaceIsTheNearest() {
        Asked m = rooms(16);
        for (int r = 1; r < 16; r++) {
            m.exit(r, DOWN, 0, false);
        }
        due(m.draw(20000), 14);
        due(m.steps(), 16);
        int[][] want = {{0, -1}, {-1, 0}, {1, 0}, {0, 1}, {0, -2}, {-1, -1}, {1, -1}, {-2, 0}, {2, 0}, {-1, 1}, {1, 1},
            {0, 2}, {0, -3}, {-1, -2}};
        duePlace(m, 0, 2, 3, 0);
        duePlace(m, 1, 2, 3, 1);
        for (int i = 0; i < want.length; i++) {
            duePlace(m, i + 2, 2 + want[i][0], 3 + want[i][1], 0);
        }
    }

    @Says("on the level of the room that is placed which the first of these LINKS joins it with")
    void theFirstLinkTellsTheSpareLevel() {
        Asked m = with(3, 1, DOWN, 0, 2, UP, 1, 2, DOWN, 0);
        m.draw(99);
        duePlace(m, 0, 0, 1, 0);
        duePlace(m, 2, 0, 0, 1);
        m = with(3, 1, DOWN, 0, 2, DOWN, 0, 2, UP, 1);
        m.draw(99);
        duePlace(m, 0, 0, 1, 0);
        duePlace(m, 2, 0, 0, 0);
    }

    @Says("on the level of the room that is placed which the first of these LINKS joins it with")
    void linksWithRoomsThatAreNotPlacedAndLoopsDoNotTellIt() {
        Asked m = with(4, 3, UP, 2, 2, N, 2, 1, DOWN, 0, 2, UP, 1, 2, DOWN, 0);
        m.draw(99);
        duePlace(m, 0, 0, 1, 0);
        duePlace(m, 1, 0, 1, 1);
        duePlace(m, 2, 0, 0, 1);
        duePlace(m, 3, 0, 0, 0);
    }

    @Says("PART by PART (each by itself: no room of another PART counts as placed)")
    void roomsOfOtherPartsTakeNoPlaces() {
        int[] told = {1, 2, 20000};
        for (int steps : told) {
            Asked m = with(4, 0, E, 2, 1, E, 3);
            due(m.draw(steps), 0);
            duePlace(m, 0, 0, 0, 0);
            duePlace(m, 2, 1, 0, 0);
            duePlace(m, 1, 3, 0, 0);
            duePlace(m, 3, 4, 0, 0);
        }
    }

    @Says("PART by PART (each by itself: no room of another PART counts as placed)")
    void eachPartHasItsOwnSteps() {
        Asked m = with(5, 0, E, 1, 2, E, 3);
        m.draw(3);
        due(m.steps(), 3 + 3 + 1);
        m.draw(4);
        due(m.steps(), 4 + 4 + 1);
        m.draw(5);
        due(m.steps(), 4 + 4 + 1);
    }

    @Says("(the first CHANCE for all rooms first, the last room's CHANCES going through first)")
    void theLastRoomsChancesGoFirst() {
        // room 1 two places off is the ninth step; room 2 is right by its first chance then, the tenth
        Asked m = with(3, 0, E, 1, 0, SE, 2, 2, NE, 1);
        due(m.draw(9), 1);
        duePlace(m, 1, 1, 0, 0);
        duePlace(m, 2, 1, 1, 0);
        due(m.draw(10), 0);
        duePlace(m, 1, 2, 0, 0);
        duePlace(m, 2, 1, 1, 0);
    }

    @Says("The COST of a placing: 10 for each BENT LINK, d - 1 for each STRAIGHT one.")
    void leastCostCountsAndNotFewestBent() {
        // the link back is 12 long and costs 11; by the 18th step the last room is beside room 0, for 10
        Asked m = rowAndBack(15);
        due(m.draw(15), 0);
        due(m.cost(), 11);
        due(m.draw(17), 0);
        due(m.cost(), 11);
        duePlace(m, 14, 12, 0, 0);
        due(m.draw(18), 1);
        due(m.cost(), 10);
        duePlace(m, 14, 1, 0, 0);
    }

    @Says("The placing of the whole PART that has the least COST counts, the first one of like ones")
    void theFirstOfLikeOnesCounts() {
        // the link back is 11 long and costs 10, as a bent one does
        Asked m = rowAndBack(14);
        due(m.draw(14), 0);
        due(m.cost(), 10);
        due(m.draw(19), 0);
        due(m.cost(), 10);
        duePlace(m, 13, 11, 0, 0);
        m = with(3, 0, E, 1, 1, W, 2);
        due(m.draw(20000), 1);
        duePlace(m, 2, 0, 0, 0);
        duePlace(m, 0, 1, 0, 0);
        duePlace(m, 1, 2, 0, 0);
    }

    @Says("if there was none by then: that by first CHANCES, whatever the steps (its placings are none; those made before count)")
    void firstChancesCountIfStepsAreTooFew() {
        Asked m = row(24);
        int[] few = {1, 2, 23};
        for (int steps : few) {
            due(m.draw(steps), 0);
            due(m.steps(), steps);
            due(m.told(3), 24);
            duePlace(m, 1, 1, 0, 0);
            duePlace(m, 23, 23, 0, 0);
        }
    }

    @Says("When n steps of this PART were made, no further one is (no more is tried then).")
    void thePlacingOfTheLastStepCounts() {
        // whole by the third step; by the fifth room 2 lies south of room 0, as one of its links goes
        Asked m = with(3, 0, E, 1, 1, W, 2, 0, S, 2);
        due(m.draw(3), 2);
        due(m.draw(4), 2);
        due(m.draw(5), 1);
        duePlace(m, 2, 0, 1, 0);
    }

    @Says("its least x is 2 above the greatest x of those before (the first one: 0)")
    void partsAreMovedToTheEast() {
        Asked m = with(7, 0, W, 1, 0, E, 2, 3, W, 4);
        due(m.draw(99), 0);
        duePlace(m, 1, 0, 0, 0);
        duePlace(m, 0, 1, 0, 0);
        duePlace(m, 2, 2, 0, 0);
        duePlace(m, 4, 4, 0, 0);
        duePlace(m, 3, 5, 0, 0);
        duePlace(m, 5, 7, 0, 0);
        duePlace(m, 6, 9, 0, 0);
        m = rooms(24);
        m.draw(1);
        duePlace(m, 23, 46, 0, 0);
    }

    @Says("and each to the south that its least y is 0")
    void partsAreMovedToTheSouth() {
        Asked m = with(6, 0, N, 1, 2, S, 3, 4, UP, 5);
        due(m.draw(99), 0);
        duePlace(m, 1, 0, 0, 0);
        duePlace(m, 0, 0, 1, 0);
        duePlace(m, 2, 2, 0, 0);
        duePlace(m, 3, 2, 1, 0);
        duePlace(m, 4, 4, 0, 0);
        duePlace(m, 5, 4, 0, 1);
    }

    @Says("What is told of places is that of the latest draw() or grow()")
    void allIsPlacedAnew() {
        Asked m = with(2, 0, W, 1);
        m.grow();
        duePlace(m, 1, -1, 0, 0);
        m.draw(9);
        duePlace(m, 0, 1, 0, 0);
        duePlace(m, 1, 0, 0, 0);
        m.cut(0);
        m.draw(9);
        duePlace(m, 0, 0, 0, 0);
        duePlace(m, 1, 2, 0, 0);
        m.exit(0, DOWN, 1, true);
        m.draw(9);
        duePlace(m, 1, 0, 0, -1);
    }

    @Says("What is refused changes nothing.")
    void aRefusedDrawChangesNothing() {
        changesNothing(Promise::manifold, m -> {
            due(m.draw(0), BAD);
            due(m.draw(20001), BAD);
            due(m.draw(-1), BAD);
        });
    }
}
