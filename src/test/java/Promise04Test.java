/** Promise 4: cut. */
public final class Promise04Test extends Promise {
    public static void main(String[] args) throws Exception {
        new Promise04Test().run();
    }

    private static Asked fourLinks() {
        Asked m = with(4, 0, N, 1);
        m.exit(1, NE, 2, true);
        m.exit(2, E, 3, false);
        m.exit(3, UP, 3, true);
        return m;
    }

    private void dueLink(Asked m, int l, int from, int direction, int to, int both) {
        due(m.link(l, 0), from);
        due(m.link(l, 1), direction);
        due(m.link(l, 2), to);
        due(m.link(l, 3), both);
        due(m.link(l, 4), from == to ? 1 : 0);
    }

    @Says("A LINK goes, those with greater numbers have one less: how many there are.")
    void theFirstGoes() {
        Asked m = fourLinks();
        due(m.cut(0), 3);
        dueLink(m, 0, 1, NE, 2, 1);
        dueLink(m, 1, 2, E, 3, 0);
        dueLink(m, 2, 3, UP, 3, 1);
        due(m.link(3, 0), BAD);
    }

    @Says("A LINK goes, those with greater numbers have one less: how many there are.")
    void oneInTheMiddleGoes() {
        Asked m = fourLinks();
        due(m.cut(1), 3);
        dueLink(m, 0, 0, N, 1, 0);
        dueLink(m, 1, 2, E, 3, 0);
        dueLink(m, 2, 3, UP, 3, 1);
        due(m.link(3, 0), BAD);
        due(m.told(1), 3);
    }

    @Says("A LINK goes, those with greater numbers have one less: how many there are.")
    void theLastGoes() {
        Asked m = fourLinks();
        due(m.cut(3), 3);
        dueLink(m, 0, 0, N, 1, 0);
        dueLink(m, 1, 1, NE, 2, 1);
        dueLink(m, 2, 2, E, 3, 0);
        due(m.link(3, 0), BAD);
        due(m.cut(3), BAD);
    }

    @Says("A LINK goes, those with greater numbers have one less: how many there are.")
    void allGo() {
        Asked m = fullOfLinks(7);
        for (int left = 59; left >= 0; left--) {
            due(m.cut(left / 2), left);
        }
        due(m.cut(0), BAD);
        due(m.told(1), 0);
        due(m.told(0), 7);
        due(m.exit(0, N, 1, false), 0);
    }

    @Says("A LINK goes")
    void itLeadsOutNoMore() {
        Asked m = fourLinks();
        m.cut(1);
        due(m.out(1, NE), NONE);
        due(m.out(2, SW), NONE);
        due(m.exit(0, NE, 2, true), 3);
        m = fourLinks();
        m.cut(3);
        due(m.exit(3, DOWN, 1, false), 3);
    }

    @Says("A LINK goes")
    void placesStay() {
        Asked m = with(2, 0, E, 1);
        m.draw(9);
        due(m.cut(0), 0);
        duePlace(m, 0, 0, 0, 0);
        duePlace(m, 1, 1, 0, 0);
        due(m.least(0), 1);
        due(m.steps(), 4);
    }

    @Says("BAD: a number is none that there is, or outside what is told")
    void aLinkIsOneThatThereIs() {
        Asked m = fourLinks();
        int[] none = {-1, 4, NONE, 59, 60, LEAST_INT, GREATEST_INT};
        for (int l : none) {
            due(m.cut(l), BAD);
        }
        due(m.told(1), 4);
    }

    @Says("What is refused changes nothing.")
    void aRefusedCutChangesNothing() {
        changesNothing(Promise::manifold, m -> {
            due(m.cut(-1), BAD);
            due(m.cut(6), BAD);
        });
        changesNothing(() -> fullOfLinks(7), m -> due(m.cut(60), BAD));
    }
}
