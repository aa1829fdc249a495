import java.lang.management.ManagementFactory;
import java.util.function.ToLongFunction;

/** All calls of a run live in one room: an object is small, and its calls make nothing, but for the first save. */
public final class RoomTest {
    /** So few that the machine does not yet compile objects away. */
    private static final int CALLS = 64;
    private static final long OBJECT_BYTES = 16_000;
    /** An object a call would be at least 16 * CALLS. */
    private static final long SLACK = 500;
    private static final com.sun.management.ThreadMXBean BEAN =
        (com.sun.management.ThreadMXBean) ManagementFactory.getThreadMXBean();
    private static final Due DUE = new Due();
    private static long seen;

    public static void main(String[] args) {
        if (!BEAN.isThreadAllocatedMemorySupported()) {
            System.out.println("this machine does not tell what a thread has made");
            return;
        }
        objects();
        changes();
        answers();
        whatIf();
        texts();
        states();
        DUE.due("the calls were made", seen != 0 ? 1 : 0, 1);
        DUE.end();
    }

    private static long made() {
        return BEAN.getThreadAllocatedBytes(Thread.currentThread().getId());
    }

    private static void atMost(String what, long got, long most) {
        DUE.due(what + " makes " + got + " bytes, at most " + most, got <= most ? 1 : 0, 1);
    }

    private static void objects() {
        long least = Long.MAX_VALUE;
        for (int round = 0; round < 3; round++) {
            long before = made();
            TeaBlends x = new TeaBlends();
            least = Math.min(least, made() - before);
            seen += x.count(8);
        }
        atMost("an object", least, OBJECT_BYTES);
    }

    /** Of three rounds the least counts: in the others the machine may have loaded what it needs itself. */
    private static void calls(String call, ToLongFunction<TeaBlends> asked) {
        for (TeaBlends x : new TeaBlends[] {Twins.busy(), Twins.full()}) {
            long least = Long.MAX_VALUE;
            for (int round = 0; round < 3; round++) {
                long before = made();
                for (int i = 0; i < CALLS; i++) {
                    seen += asked.applyAsLong(x);
                }
                least = Math.min(least, made() - before);
            }
            atMost(CALLS + " calls of " + call, least, SLACK);
        }
    }

    private static void changes() {
        calls("set()", x -> x.set(TeaBlends.FADE, 3));
        calls("leaf()", x -> x.leaf(1, 1, 1) + x.undo());
        calls("row()", x -> x.row(1, 0L) + x.row(1, -1L));
        calls("buy()", x -> x.buy(1, 1));
        calls("bound()", x -> x.bound(1, 0, 99) + x.bound(3, 0, 0));
        calls("share()", x -> x.share(1, 0) + x.share(1, 4));
        calls("choose()", x -> x.choose());
        calls("mix()", x -> x.mix(1));
        calls("pass()", x -> x.pass(1));
    }

    private static void answers() {
        calls("of()", x -> x.of(1, 0) + x.of(1, 1) + x.of(9, 0));
        calls("blend()", x -> x.blend(0) + x.blend(3) + x.blend(5));
        calls("why()", x -> x.why());
        calls("count()", x -> x.count(3) + x.count(13));
        calls("taste()", x -> x.taste(0));
        calls("mean()", x -> x.mean());
    }

    private static void whatIf() {
        calls("cheapest()", x -> x.cheapest(0));
        calls("swap()", x -> x.swap(2));
        calls("looser()", x -> x.looser(0) + x.looser(3));
        calls("keepsFor()", x -> x.keepsFor());
        calls("mostGrams()", x -> x.mostGrams());
    }

    private static void texts() {
        long orders = Due.characters("d1;s1=2");
        calls("put() and wipe()", x -> x.put(orders) + x.wipe());
        calls("fault()", x -> x.fault());
        calls("carryOut()", x -> x.wipe() + x.put(orders) + x.carryOut());
        long leaf = Due.characters("+1:2,3,4");
        long stock = Due.characters("*5");
        calls("an order of a leaf", x -> x.wipe() + x.put(leaf) + x.put(stock) + x.fault() + x.carryOut());
    }

    private static void states() {
        calls("undo()", x -> x.undo());
        calls("save()", x -> x.save(0) + x.save(1));
        calls("restore()", x -> x.restore(0) + x.restore(1));
        long least = Long.MAX_VALUE;
        for (int round = 0; round < 3; round++) {
            TeaBlends x = Twins.busy();
            long before = made();
            seen += x.save(1);
            least = Math.min(least, made() - before);
        }
        atMost("the first save() into a slot", least, OBJECT_BYTES / 8);
    }
}
