/** Promise 20: sign, and how the Terms DRAW a level. */
public final class Promise20Test extends Promise {
    public static void main(String[] args) throws Exception {
        new Promise20Test().run();
    }

    @Says("BAD: the column, the row below 0 (a level may be).")
    void columnAndRowAreNotBelowZero() {
        Asked m = rooms(1);
        for (int drawn = 0; drawn < 2; drawn++) {
            int[] below = {-1, NONE, LEAST_INT};
            for (int b : below) {
                due(m.sign(0, b, 0), BAD);
                due(m.sign(0, 0, b), BAD);
                due(m.sign(-1, b, b), BAD);
                due(m.sign(7, b, 0), BAD);
            }
            m.draw(1);
        }
        due(m.sign(0, 0, 0), 65);
    }

    @Says("BAD: the column, the row below 0 (a level may be).")
    void aLevelMayBeBelowZero() {
        Asked m = with(2, 0, DOWN, 1);
        m.draw(9);
        due(m.sign(-1, 0, 0), 66);
        int[] levels = {-2, 1, LEAST_INT, GREATEST_INT};
        for (int level : levels) {
            due(m.sign(level, 0, 0), 32);
        }
    }

    @Says("32 where nothing is")
    void beyondTheMapThereAreBlanks() {
        Asked m = rooms(1);
        due(m.sign(0, 0, 0), 32);
        m.draw(1);
        int[] beyond = {1, 2, 6, 1000000, GREATEST_INT};
        for (int b : beyond) {
            due(m.sign(0, b, 0), 32);
            due(m.sign(0, 0, b), 32);
            due(m.sign(0, b, b), 32);
        }
    }

    @Says("At each room's place, its first column and row: its letter (A for 0), WIDTH times, to the east.")
    void lettersAreAsManyAsTheWidth() {
        Asked m = wide(1, 2, 3, 4, 5);
        m.draw(1);
        dueLevel(m, 0, "A           BB          CCC         DDDD        EEEEE");
    }

    @Says("its letter (A for 0)")
    void theLastLetterIsX() {
        Asked m = rooms(24);
        m.draw(1);
        for (int r = 0; r < 24; r++) {
            due(m.sign(0, 12 * r, 0), 'A' + r);
            due(m.sign(0, 12 * r + 1, 0), 32);
        }
    }

    @Says("places are 6 columns and 2 rows wide, from the least x and y of all rooms that are placed on")
    void theLeastPlaceOfAllLevelsIsTheFirst() {
        Asked m = with(4, 0, UP, 1, 1, NW, 2);
        m.grow();
        duePlace(m, 2, -1, -1, 1);
        dueLevel(m, 0, "", "", "      A^          D");
        dueLevel(m, 1, "C", "   \\", "      B");
        // a room without a place does not count
        m.play(2, NW, NONE);
        due(m.sign(1, 0, 0), 'C');
    }

    @Says("right behind its letters 94, if a LINK leads out of it by 8 (BENT, LOOP or not)")
    void upIsMarkedWhereALinkLeadsUp() {
        Asked m = with(2, 0, UP, 1);
        m.draw(9);
        dueLevel(m, 0, "A^");
        dueLevel(m, 1, "B");
        m = rooms(2);
        m.exit(0, DOWN, 1, true);
        m.draw(9);
        dueLevel(m, 0, "Av");
        dueLevel(m, -1, "B^");
    }

    @Says("right behind its letters 94, if a LINK leads out of it by 8 (BENT, LOOP or not)")
    void bentOnesAndLoopsAreMarkedToo() {
        Asked m = rooms(3);
        m.draw(1);
        m.exit(0, UP, 1, false);
        m.exit(2, UP, 2, false);
        due(m.straight(0), NONE);
        dueLevel(m, 0, "A^          B           C^");
        m.exit(2, DOWN, 0, false);
        m.exit(1, DOWN, 1, false);
        dueLevel(m, 0, "A^          Bv          C^v");
        m.play(0, DOWN, NONE);
        dueLevel(m, 0, "A^v         Bv          C^v");
        m.cut(0);
        due(m.sign(0, 1, 0), 118);
        due(m.sign(0, 2, 0), 32);
    }

    @Says("and 118, if one does by 9, behind that (without it: right behind the letters)")
    void downStandsBehindUp() {
        for (int width = 1; width <= 5; width++) {
            String letters = "AAAAA".substring(0, width);
            Asked m = wide(width);
            m.draw(1);
            m.exit(0, DOWN, 0, false);
            dueLevel(m, 0, letters + "v");
            m.exit(0, UP, 0, false);
            dueLevel(m, 0, letters + "^v");
            m.cut(0);
            dueLevel(m, 0, letters + "^");
        }
    }

    @Says("Then, by rooms, where there is a blank (32) yet")
    void lettersComeFirst() {
        Asked m = wide(5, 2);
        m.exit(0, E, 1, false);
        m.exit(0, UP, 0, true);
        m.draw(9);
        dueLevel(m, 0, "AAAAA^BB");
        m = wide(4, 2);
        m.exit(0, E, 1, false);
        m.exit(0, UP, 0, true);
        m.draw(9);
        dueLevel(m, 0, "AAAA^vBB");
    }

    @Says("Then STRAIGHT LINKS of this level, in their order, where there is a blank yet")
    void marksComeAheadOfLines() {
        Asked m = wide(5, 1);
        m.draw(1);
        m.exit(0, E, 1, false);
        dueLevel(m, 0, "AAAAA-------B");
        m.exit(0, UP, 0, true);
        dueLevel(m, 0, "AAAAA^v-----B");
        // 118 stands in the next place, where a line goes down
        m = wide(5, 1, 1);
        m.exit(0, NE, 1, false);
        m.exit(0, SE, 2, false);
        m.exit(1, S, 2, false);
        m.exit(0, UP, 0, true);
        due(m.grow(), 0);
        dueLevel(m, 0, "      B", "   /  |", "AAAAA^v", "   \\  |", "      C");
    }

    @Says("Then STRAIGHT LINKS of this level, in their order, where there is a blank yet")
    void theEarlierLinkHasTheSign() {
        Asked m = with(4, 0, SW, 1, 0, SE, 2, 1, E, 2, 1, SE, 3, 2, SW, 3, 0, S, 3);
        due(m.draw(20000), 0);
        due(m.sign(0, 6, 2), 45);
        m.cut(2);
        due(m.sign(0, 6, 2), 124);
        m.exit(1, E, 2, false);
        due(m.sign(0, 6, 2), 124);
        due(m.sign(0, 5, 2), 45);
        due(m.sign(0, 7, 2), 45);
        m = with(4, 0, E, 1, 0, S, 2, 2, E, 3, 1, SW, 2, 0, SE, 3);
        due(m.draw(20000), 0);
        due(m.sign(0, 3, 1), 47);
        m.cut(3);
        due(m.sign(0, 3, 1), 92);
    }

    @Says("Then STRAIGHT LINKS of this level")
    void bentOnesAndLoopsAreNoLines() {
        Asked m = with(3, 0, E, 1, 1, E, 2);
        m.draw(99);
        m.cut(1);
        m.exit(0, S, 2, false);
        m.exit(2, W, 0, false);
        m.exit(1, E, 1, true);
        m.exit(1, N, 1, false);
        m.exit(1, SE, 1, false);
        dueLevel(m, 0, "A-----B     C");
    }

    @Says("Then STRAIGHT LINKS of this level")
    void linesOfOtherLevelsAreNotDrawn() {
        Asked m = with(4, 0, UP, 1, 1, E, 2, 1, S, 3);
        m.draw(99);
        dueLevel(m, 0, "A^");
        dueLevel(m, 1, "B-----C", "|", "D");
        dueLevel(m, 2, "");
        dueLevel(m, -1, "");
        m = with(3, 0, UP, 1, 0, SE, 2);
        m.draw(99);
        dueLevel(m, 0, "A^", "   \\", "      C");
        dueLevel(m, 1, "B", "");
    }

    @Says("2, 6: in its row, from behind the letters of the room in the west to ahead of the one in the east: 45 (all columns between).")
    void acrossFromBehindTheLetters() {
        for (int width = 1; width <= 5; width++) {
            String letters = "AAAAA".substring(0, width);
            String line = "-----------".substring(width - 1);
            Asked m = wide(width, 2);
            m.draw(1);
            m.exit(0, E, 1, false);
            dueLevel(m, 0, letters + line + "BB");
            m.cut(0);
            m.exit(1, W, 0, false);
            dueLevel(m, 0, letters + line + "BB");
            m = wide(width, 2);
            m.exit(1, W, 0, width % 2 == 0);
            m.draw(9);
            dueLevel(m, 0, letters + line.substring(6) + "BB");
        }
    }

    @Says("0, 4: in the first column of that place, in all rows between: 124.")
    void downInTheFirstColumn() {
        Asked m = wide(3, 5);
        m.exit(0, S, 1, false);
        m.draw(9);
        dueLevel(m, 0, "AAA", "|", "BBBBB");
        m = wide(3, 5);
        m.exit(0, N, 1, true);
        m.draw(9);
        dueLevel(m, 0, "BBBBB", "|", "AAA");
        m = wide(1, 1, 1, 1);
        m.exit(0, E, 1, false);
        m.exit(1, S, 2, false);
        m.exit(2, S, 3, false);
        m.grow();
        m.cut(0);
        m.room(2, 0);
        m.exit(4, E, 3, false);
        m.exit(4, N, 0, false);
        m.grow();
        dueLevel(m, 0, "A     B", "|     |", "|     C", "|     |", "EE----D");
        m.cut(3);
        m.exit(0, S, 4, false);
        dueLevel(m, 0, "A     B", "|     |", "|     C", "|     |", "EE----D");
    }

    @Says("1, 3, 5, 7: for each of its d steps, in the row between, in the column that is three beyond the first one of the step's west place: 47 (1, 5), 92 (3, 7).")
    void slantingOneSignAStep() {
        // to the corner by two rooms east and two south, or north; then the slanting link from corner to corner
        int[] down = {0, E, 1, 1, E, 2, 2, S, 3, 3, S, 4};
        int[] up = {0, E, 1, 1, E, 2, 2, N, 3, 3, N, 4};
        for (int way = 0; way < 2; way++) {
            Asked m = with(5, down);
            m.exit(way == 0 ? 0 : 4, way == 0 ? SE : NW, way == 0 ? 4 : 0, false);
            due(m.grow(), 0);
            dueLevel(m, 0, "A-----B-----C", "   \\        |", "            D", "         \\  |", "            E");
            m = with(5, up);
            m.exit(way == 0 ? 0 : 4, way == 0 ? NE : SW, way == 0 ? 4 : 0, false);
            due(m.grow(), 0);
            dueLevel(m, 0, "            E", "         /  |", "            D", "   /        |", "A-----B-----C");
        }
    }

    @Says("for each of its d steps, in the row between, in the column that is three beyond the first one of the step's west place")
    void slantingInTheMiddle() {
        for (int way = 0; way < 2; way++) {
            Asked m = rooms(5);
            for (int r = 1; r < 5; r++) {
                int direction = 2 * r - 1;
                m.exit(way == 0 ? 0 : r, way == 0 ? direction : OPPOSITE[direction], way == 0 ? r : 0, false);
            }
            m.room(1, 0);
            m.exit(2, SE, 5, false);
            due(m.draw(6), 0);
            dueLevel(m, 0, "E           B", "   \\     /", "      A", "   /     \\", "D           C",
                    "               \\", "                  F");
        }
    }

    @Says("for each of its d steps, in the row between, in the column that is three beyond the first one of the step's west place")
    void slantingWithNothingBefore() {
        Asked m = with(4, 0, S, 1, 1, E, 2, 2, SE, 3);
        m.draw(4);
        dueLevel(m, 0, "A", "|", "B-----C", "         \\", "            D");
        m = with(4, 0, N, 1, 1, E, 2, 2, NE, 3);
        m.draw(4);
        dueLevel(m, 0, "            D", "         /", "B-----C", "|", "A");
    }

    @Says("rooms that came later have none")
    void noLineGoesToARoomWithoutAPlace() {
        Asked m = rooms(2);
        m.draw(1);
        m.room(1, 0);
        m.exit(1, W, 2, false);
        due(m.straight(0), NOT);
        dueLevel(m, 0, "A           B");
        m.cut(0);
        m.exit(2, E, 1, false);
        dueLevel(m, 0, "A           B");
    }

    @Says("DRAWN: the sign of a level at a column and row, from 0 on")
    void linesGoByTheLinksAndPlacesThatAreNow() {
        Asked m = rooms(2);
        m.draw(1);
        due(m.sign(0, 6, 0), 32);
        m.exit(0, E, 1, false);
        due(m.sign(0, 6, 0), 45);
        due(m.sign(0, 12, 0), 66);
        m.draw(9);
        due(m.sign(0, 6, 0), 66);
        due(m.sign(0, 12, 0), 32);
        m.cut(0);
        due(m.sign(0, 5, 0), 32);
    }
}
