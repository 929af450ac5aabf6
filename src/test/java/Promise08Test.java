/** Promise 8: link. */
public final class Promise08Test extends Promise {
    public static void main(String[] args) throws Exception {
        new Promise08Test().run();
    }

    @Says("Of a LINK: 0 FROM, 1 DIRECTION, 2 TO, 3 whether it is of both, 4 whether it is a LOOP (1, 0).")
    void itTellsFiveThings() {
        Asked m = rooms(3);
        m.exit(2, DOWN, 1, true);
        m.exit(1, SE, 1, false);
        m.exit(0, N, 2, false);
        m.exit(0, E, 0, true);
        int[][] want = {{2, DOWN, 1, 1, 0}, {1, SE, 1, 0, 1}, {0, N, 2, 0, 0}, {0, E, 0, 1, 1}};
        for (int l = 0; l < 4; l++) {
            for (int what = 0; what <= 4; what++) {
                due(m.link(l, what), want[l][what]);
            }
        }
    }

    @Says("BAD: a number is none that there is, or outside what is told")
    void whatIsZeroToFour() {
        Asked m = with(2, 0, E, 1);
        int[] outside = {-1, 5, NONE, LEAST_INT, GREATEST_INT};
        for (int what : outside) {
            due(m.link(0, what), BAD);
        }
    }

    @Says("BAD: a number is none that there is, or outside what is told")
    void aLinkIsOneThatThereIs() {
        Asked m = with(2, 0, E, 1, 1, E, 0);
        int[] none = {-1, 2, NONE, 59, 60, LEAST_INT, GREATEST_INT};
        for (int l : none) {
            for (int what = 0; what <= 4; what++) {
                due(m.link(l, what), BAD);
            }
        }
        due(m.link(1, 0), 1);
        m.cut(0);
        due(m.link(1, 0), BAD);
        due(m.link(0, 0), 1);
    }

    @Says("A LINK (60 at most, numbered likewise)")
    void theLastOfSixtyIsTold() {
        Asked m = fullOfLinks(7);
        due(m.link(59, 0), 5);
        due(m.link(59, 1), DOWN);
        due(m.link(59, 2), 6);
        due(m.link(60, 0), BAD);
    }
}
