/** Promise 1: a new object. */
public final class Promise01Test extends Promise {
    public static void main(String[] args) throws Exception {
        new Promise01Test().run();
    }

    @Says("No rooms, no LINKS.")
    void allThatIsToldIsNought() {
        Asked m = new Asked();
        for (int what = 0; what < 8; what++) {
            due(m.told(what), 0);
        }
        due(m.steps(), 0);
        due(m.cost(), 0);
        due(m.sign(0, 0, 0), 32);
    }

    @Says("No rooms, no LINKS.")
    void noNumberIsARoom() {
        Asked m = new Asked();
        due(m.exit(0, 0, 0, false), BAD);
        due(m.play(0, 0, 0), BAD);
        due(m.play(0, 0, NONE), BAD);
        due(m.mark(0, 0), BAD);
        due(m.mark(0, NONE), BAD);
        due(m.out(0, 0), BAD);
        due(m.part(0), BAD);
        due(m.place(0, 0), -1001);
        due(m.far(0, 0), BAD);
        due(m.step(0, 0, 0), BAD);
        due(m.told(0), 0);
    }

    @Says("No rooms, no LINKS.")
    void noNumberIsALink() {
        Asked m = new Asked();
        due(m.cut(0), BAD);
        due(m.link(0, 0), BAD);
        due(m.straight(0), BAD);
        due(m.told(1), 0);
    }

    @Says("No rooms, no LINKS.")
    void regionsAndPartsAreEmpty() {
        Asked m = new Asked();
        for (int region = 0; region < 10; region++) {
            due(m.alike(region), NONE);
        }
        for (int part = 0; part < 24; part++) {
            due(m.least(part), NONE);
        }
    }

    @Says("No rooms, no LINKS.")
    void nothingCanBeDrawnAndGrown() {
        Asked m = new Asked();
        due(m.draw(20000), 0);
        due(m.steps(), 0);
        due(m.least(0), NONE);
        due(m.grow(), 0);
        due(m.told(3), 0);
        due(m.told(6), 0);
        due(m.sign(0, 0, 0), 32);
        due(m.room(1, 0), 0);
        due(m.place(0, 0), -1002);
    }

    @Says("No rooms, no LINKS.")
    void anotherObjectChangesNothing() {
        Asked first = new Asked();
        Asked used = manifold();
        due(used.told(0), 6);
        for (int what = 0; what < 8; what++) {
            due(first.told(what), 0);
        }
        Asked later = new Asked();
        for (int what = 0; what < 8; what++) {
            due(later.told(what), 0);
        }
        due(used.told(0), 6);
    }
}
