import com.sun.management.ThreadMXBean;
import java.lang.management.ManagementFactory;
import java.util.List;
import java.util.function.ToIntFunction;

/** "What it is", its words on 512 calls: the last one is answered as a first one; none makes objects. */
public final class CallsTest extends Promise {
    /** Far less than an object for each step of one drawing would take. */
    private static final int FEW_BYTES = 20_000;

    private static final List<ToIntFunction<Asked>> EACH_CALL = List.of(
            m -> m.room(1, 0), m -> m.exit(0, W, 5, true), m -> m.cut(0), m -> m.play(4, N, NONE),
            m -> m.mark(0, 7), m -> m.alike(0), m -> m.link(2, 1), m -> m.out(1, S), m -> m.part(4),
            m -> m.draw(20000), m -> m.grow(), m -> m.least(0), m -> m.steps(), m -> m.place(1, 0),
            m -> m.straight(1), m -> m.cost(), m -> m.far(0, 3), m -> m.step(0, 3, 2),
            m -> m.sign(0, 0, 0), m -> m.told(1));

    public static void main(String[] args) throws Exception {
        new CallsTest().run();
    }

    @Says("An object is used for at most 512 calls after it has been made")
    void theLastCallIsAnsweredLikeAnEarlyOne() {
        for (ToIntFunction<Asked> call : EACH_CALL) {
            int want = call.applyAsInt(manifold());
            Asked used = manifold();
            for (int i = 0; used.callsLeft() > 1; i++) {
                askSomething(used, i);
            }
            due(call.applyAsInt(used), want);
            due(used.callsLeft(), 0);
        }
    }

    @Says("An object is used for at most 512 calls after it has been made")
    void linksComeAndGoAsLongAsThereAreCalls() {
        Asked m = rooms(2);
        while (m.callsLeft() > 2) {
            due(m.exit(0, E, 1, true), 0);
            due(m.cut(0), 0);
        }
        due(m.out(1, W), NONE);
        due(m.told(1), 0);
    }

    @Says("An object is used for at most 512 calls after it has been made")
    void allIsDrawnAnewAsLongAsThereAreCalls() {
        Asked m = with(4, 0, E, 1, 1, S, 2, 3, NE, 0);
        int bent = m.draw(20000);
        int steps = m.steps();
        while (m.callsLeft() > 3) {
            due(m.grow(), bent);
            due(m.draw(20000), bent);
            due(m.steps(), steps);
        }
    }

    @Says("An object is used for at most 512 calls after it has been made; what later calls answer is free.")
    void laterCallsEnd() {
        MapDrawer map = new MapDrawer();
        for (int i = 0; i < 20 * Asked.MOST_CALLS; i++) {
            anyCall(map, i);
        }
        due(map.told(-1), BAD);
    }

    @Says("An object is used for at most 512 calls after it has been made")
    void noCallMakesObjects() {
        makeAllCalls();
        ThreadMXBean thread = (ThreadMXBean) ManagementFactory.getThreadMXBean();
        thread.getCurrentThreadAllocatedBytes();
        long before = thread.getCurrentThreadAllocatedBytes();
        makeAllCalls();
        long made = thread.getCurrentThreadAllocatedBytes() - before;
        due(made < FEW_BYTES ? 0 : (int) made, 0);
    }

    private static void makeAllCalls() {
        MapDrawer map = new MapDrawer();
        for (int i = 0; i < Asked.MOST_CALLS; i++) {
            anyCall(map, i);
        }
    }

    /** A call that changes nothing. */
    private static void askSomething(Asked m, int i) {
        switch (i % 7) {
            case 0 -> m.sign(0, i % 12, 0);
            case 1 -> m.told(i % 9);
            case 2 -> m.step(i % 6, 0, 0);
            case 3 -> m.part(i % 6);
            case 4 -> m.straight(i % 6);
            case 5 -> m.draw(0);
            default -> m.exit(0, E, 1, false);
        }
    }

    /** Each kind of call by turns, with numbers that are sometimes right. */
    private static int anyCall(MapDrawer map, int i) {
        int a = i / 20 % 24;
        int b = i * 7 / 20 % 25;
        int d = i / 9 % 11;
        return switch (i % 20) {
            case 0 -> map.room(1 + i % 5, i % 10);
            case 1 -> map.exit(a, d, b, i % 40 == 1);
            case 2 -> map.play(a, d, NONE);
            case 3 -> map.play(b, d, a);
            case 4 -> map.mark(a, d);
            case 5 -> map.alike(d);
            case 6 -> map.link(b, i % 5);
            case 7 -> map.out(a, d);
            case 8 -> map.part(b);
            case 9 -> map.draw(i % 400 < 20 ? 20000 : 1 + i % 300);
            case 10 -> map.grow();
            case 11 -> map.least(a);
            case 12 -> map.place(b, i % 3);
            case 13 -> map.straight(a);
            case 14 -> map.cost();
            case 15 -> map.far(a, b);
            case 16 -> map.step(b, a, i % 4);
            case 17 -> map.sign(i % 3, b, d);
            case 18 -> i % 3 == 0 ? map.cut(a) : map.steps();
            default -> map.told(i % 9);
        };
    }
}
