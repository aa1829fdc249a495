import java.util.List;
import java.util.function.Function;
import java.util.function.Supplier;
import java.util.function.ToLongFunction;

/** Shops made alike in pairs: one of two is asked, and then both have to be alike in all that can be seen of them. */
final class Twins {
    private static final int LEAVES = 5;
    private static final List<Function<TeaBlends, String>> LOOKS =
        List.of(Twins::answers, Twins::week, Twins::history, Twins::slots, Twins::pad);

    private final Due due;

    Twins(Due due) {
        this.due = due;
    }

    /** The call answers so, and nothing is different then. */
    void unchanged(Supplier<TeaBlends> made, String call, ToLongFunction<TeaBlends> asked, long want) {
        for (Function<TeaBlends, String> look : LOOKS) {
            TeaBlends one = made.get();
            due.due(call, asked.applyAsLong(one), want);
            due.due(call + " leaves all as it was", look.apply(one).equals(look.apply(made.get())) ? 1 : 0, 1);
        }
    }

    /** The same for a new shop, a busy one and a full one. */
    void unchangedAnywhere(String call, ToLongFunction<TeaBlends> asked, long want) {
        unchanged(TeaBlends::new, call + " of a new shop", asked, want);
        unchanged(Twins::busy, call + " of a busy shop", asked, want);
        unchanged(Twins::full, call + " of a full shop", asked, want);
    }

    /** Three leaves, a blend that keeps its bounds, one slot saved, a history of 6, and a pad with three orders. */
    static TeaBlends busy() {
        TeaBlends x = new TeaBlends();
        x.leaf(30, Due.tastes(80, 40, 10), 500);
        x.leaf(12, Due.tastes(20, 60, 5), 300);
        x.save(0);
        x.leaf(55, Due.tastes(30, 50, 90), 100);
        x.row(0, Due.row(1, -2, 3, -4, 5, -6, 7));
        x.row(2, Due.row(-9, 9, 8, -7, 6, -5, 4));
        x.share(0, 10);
        x.share(1, 4);
        x.share(2, 6);
        x.mix(50);
        x.bound(0, 11, 88);
        x.pass(3);
        x.set(TeaBlends.FADE, 5);
        x.set(TeaBlends.WEEK, 5);
        x.bound(2, 6, 93);
        Due.write(x, "d1;s0=9;m7");
        return x;
    }

    /** Five leaves with full stocks, a whole blend, both slots saved, a history of 6, and a pad of 80 characters. */
    static TeaBlends full() {
        TeaBlends x = Due.shopOf(Due.tastes(100, 50, 0), 1, 20, 300, 999, 0);
        for (int leaf = 0; leaf < LEAVES; leaf++) {
            x.save(leaf & 1);
            x.buy(leaf, 8999);
            x.share(leaf, 4);
        }
        x.row(1, Due.row(9, -9));
        Due.write(x, "d1;".repeat(25) + "d1;d9");
        return x;
    }

    /** Both have the same leaves, blend, bounds and numbers; the pad and the history do not matter. */
    void alike(String call, TeaBlends one, TeaBlends other) {
        due.due(call + ", all but pad and history", shop(one).equals(shop(other)) ? 1 : 0, 1);
    }

    /** Some 50 numbers: few enough to be asked again for each state of a history within 512 calls. */
    private static String state(TeaBlends x) {
        StringBuilder state = new StringBuilder();
        for (int leaf = 0; leaf < LEAVES; leaf++) {
            for (int what = 0; what <= 6; what++) {
                state.append(x.of(leaf, what)).append(' ');
            }
        }
        for (int what = 0; what <= 11; what++) {
            state.append(x.count(what)).append(' ');
        }
        return state.append(x.mean()).append('\n').toString();
    }

    private static String shop(TeaBlends x) {
        StringBuilder all = new StringBuilder(state(x));
        for (int what = 0; what <= 5; what++) {
            all.append(x.blend(what)).append(' ').append(x.cheapest(what)).append(' ');
            all.append(x.looser(what)).append(' ');
        }
        for (int what = 0; what <= 2; what++) {
            all.append(x.taste(what)).append(' ').append(x.swap(what)).append(' ');
        }
        return all.append(x.why()).append(' ').append(x.keepsFor()).append(' ').append(x.mostGrams()).toString();
    }

    private static String answers(TeaBlends x) {
        return shop(x) + " " + x.count(12) + " " + x.count(13) + " " + x.fault();
    }

    /** Each place of the rows, also those that the week leaves out. */
    private static String week(TeaBlends x) {
        StringBuilder prices = new StringBuilder();
        x.set(TeaBlends.WEEK, 7);
        for (int day = 0; day < 7; day++) {
            for (int leaf = 0; leaf < LEAVES; leaf++) {
                prices.append(x.of(leaf, 0)).append(' ');
            }
            x.pass(1);
        }
        return prices.toString();
    }

    private static String history(TeaBlends x) {
        StringBuilder states = new StringBuilder();
        for (int i = 0; i < 7; i++) {
            states.append(x.undo()).append(' ').append(state(x));
        }
        return states.toString();
    }

    private static String slots(TeaBlends x) {
        StringBuilder states = new StringBuilder();
        for (int slot = 0; slot < 2; slot++) {
            states.append(x.restore(slot)).append(' ').append(state(x));
        }
        return states.toString();
    }

    /** What the pad holds shows in what its orders do. */
    private static String pad(TeaBlends x) {
        String carriedOut = x.count(12) + " " + x.fault() + " " + x.carryOut() + " " + state(x);
        return carriedOut + x.wipe() + " " + x.undo() + " " + state(x);
    }
}
