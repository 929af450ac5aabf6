import java.util.Random;

/** All promises: long mixed runs of calls, each answer compared with that of PlainMap. */
public final class ManyRunsTest {
    private static final Check check = new Check("ManyRunsTest");
    private static final int CALLS = 512;

    /** A fixed seed: every run of the test makes the same calls. */
    private final Random dice;
    private final MapDrawer map = new MapDrawer();
    private final PlainMap plain = new PlainMap();
    private final String name;
    private final int kinds;
    private final int fewSteps;

    private ManyRunsTest(int run) {
        dice = new Random(run);
        name = "run " + run + ": ";
        // some runs have few directions, so that many rooms want the same place
        kinds = run % 3 == 0 ? 10 : 1 + run % 10;
        fewSteps = run % 4 == 0 ? 30 : run % 12 == 1 ? 1500 : 400;
    }

    public static void main(String[] args) {
        for (int run = 0; run < 120; run++) {
            new ManyRunsTest(run).go(run % 5);
        }
        check.end();
    }

    private void go(int shape) {
        int made = 0;
        int rooms = new int[] {3, 6, 12, 24, 24}[shape];
        int links = new int[] {6, 9, 14, 30, 60}[shape];
        for (int i = 0; i < rooms - 1; i++, made++) {
            newRoom();
        }
        for (int i = 0; i < links && made < CALLS / 2; i++, made++) {
            newExit();
        }
        for (; made < CALLS; made++) {
            anyCall();
        }
        compareSheets();
    }

    private int number(int low, int high) {
        return low + dice.nextInt(high - low + 1);
    }

    /** A room's number, seldom one that isn't. */
    private int someRoom() {
        return dice.nextInt(30) == 0 ? number(-3, 25) : number(0, Math.max(0, plain.told(0) - 1));
    }

    private int someDirection() {
        return dice.nextInt(40) == 0 ? number(-2, 11) : dice.nextInt(kinds);
    }

    private int someLink() {
        return dice.nextInt(30) == 0 ? number(-3, 62) : number(0, Math.max(0, plain.told(1) - 1));
    }

    private void due(String call, int got, int want) {
        check.due(name + call, got, want);
    }

    private void newRoom() {
        int w = number(1, 5);
        int g = number(0, 3);
        due("room(" + w + ", " + g + ")", map.room(w, g), plain.room(w, g));
    }

    private void newExit() {
        int from = someRoom();
        int d = someDirection();
        int to = someRoom();
        boolean both = dice.nextBoolean();
        String call = "exit(" + from + ", " + d + ", " + to + ", " + both + ")";
        due(call, map.exit(from, d, to, both), plain.exit(from, d, to, both));
    }

    private void anyCall() {
        int kind = dice.nextInt(100);
        if (kind < 3) {
            newRoom();
        } else if (kind < 10) {
            newExit();
        } else if (kind < 20) {
            changeCall();
        } else if (kind < 28) {
            placingCall();
        } else {
            askingCall();
        }
    }

    private void changeCall() {
        int r = someRoom();
        int d = someDirection();
        int to = dice.nextInt(3) == 0 ? PlainMap.NONE : someRoom();
        int l = someLink();
        int thing = number(-3, 10);
        switch (dice.nextInt(4)) {
            case 0 -> due("cut(" + l + ")", map.cut(l), plain.cut(l));
            case 1 -> due("mark(" + r + ", " + thing + ")", map.mark(r, thing), plain.mark(r, thing));
            default -> due("play(" + r + ", " + d + ", " + to + ")", map.play(r, d, to), plain.play(r, d, to));
        }
    }

    private void placingCall() {
        int n = dice.nextInt(20) == 0 ? 20001 * number(0, 1) : number(1, fewSteps);
        if (dice.nextInt(3) == 0) {
            due("grow()", map.grow(), plain.grow());
        } else {
            due("draw(" + n + ")", map.draw(n), plain.draw(n));
        }
        due("steps()", map.steps(), plain.steps());
        due("cost()", map.cost(), plain.cost());
        for (int r = 0; r < plain.told(0); r++) {
            for (int what = 0; what < 3; what++) {
                due("place(" + r + ", " + what + ")", map.place(r, what), plain.place(r, what));
            }
        }
        for (int p = -1; p <= 24; p++) {
            due("least(" + p + ")", map.least(p), plain.least(p));
        }
    }

    private void askingCall() {
        int r = someRoom();
        int to = someRoom();
        int d = someDirection();
        int l = someLink();
        int what = number(-1, 8);
        int k = number(-2, 6);
        switch (dice.nextInt(13)) {
            case 0 -> due("alike(" + what + ")", map.alike(what), plain.alike(what));
            case 1 -> due("link(" + l + ", " + what + ")", map.link(l, what), plain.link(l, what));
            case 2 -> due("out(" + r + ", " + d + ")", map.out(r, d), plain.out(r, d));
            case 3 -> due("part(" + r + ")", map.part(r), plain.part(r));
            case 4 -> due("least(" + what + ")", map.least(what), plain.least(what));
            case 5 -> due("steps()", map.steps(), plain.steps());
            case 6 -> due("place(" + r + ", " + what + ")", map.place(r, what), plain.place(r, what));
            case 7 -> due("straight(" + l + ")", map.straight(l), plain.straight(l));
            case 8 -> due("cost()", map.cost(), plain.cost());
            case 9 -> due("far(" + r + ", " + to + ")", map.far(r, to), plain.far(r, to));
            case 10 -> due("step(" + r + ", " + to + ", " + k + ")", map.step(r, to, k), plain.step(r, to, k));
            case 11 -> askSign();
            default -> due("told(" + what + ")", map.told(what), plain.told(what));
        }
    }

    private void askSign() {
        int level = number(-2, 2);
        int column = number(-1, 40);
        int row = number(-1, 12);
        String call = "sign(" + level + ", " + column + ", " + row + ")";
        due(call, map.sign(level, column, row), plain.sign(level, column, row));
    }

    private void compareSheets() {
        for (int level = plain.told(4) - 1; level <= plain.told(5) + 1; level++) {
            int[][] sheet = plain.drawn(level);
            for (int row = 0; row < sheet.length; row++) {
                for (int column = 0; column < sheet[row].length; column++) {
                    String call = "sign(" + level + ", " + column + ", " + row + ")";
                    due(call, map.sign(level, column, row), sheet[row][column]);
                }
            }
        }
    }
}
