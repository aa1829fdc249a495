import java.util.function.Consumer;
import java.util.function.ToIntFunction;

/** Boundary cases of the promises 26 to 28: undo, and saved states, sentence by sentence. */
public final class EdgesOfStatesTest {
    private static final int MILD = Due.tastes(50, 50, 50);
    private static final int[] FAR = {Integer.MIN_VALUE, Integer.MAX_VALUE};
    private static final Due DUE = new Due();
    private static final Twins TWINS = new Twins(DUE);

    public static void main(String[] args) {
        nothingToUndo();
        historyOfSix();
        theOldestIsDropped();
        eachChangeIsRecorded();
        recordedThoughNothingIsDifferent();
        errorsRecordNothing();
        questionsRecordNothing();
        padAndSlotsAreNotUndone();
        ordersRecordNothingByThemselves();
        slotsToSaveIn();
        savedAnew();
        slotsToRestore();
        restoredFromASlotThatKeepsIt();
        nothingSaved();
        emptyAndFullStates();
        DUE.end();
    }

    private static TeaBlends afterDays(int days) {
        TeaBlends x = new TeaBlends();
        for (int i = 0; i < days; i++) {
            x.pass(1);
        }
        return x;
    }

    private static void nothingToUndo() {
        DUE.by("undo: NOT_POSSIBLE if there is none.");
        TWINS.unchanged(TeaBlends::new, "a new shop", x -> x.undo(), TeaBlends.NOT_POSSIBLE);
        TWINS.unchanged(() -> undone(1, 1), "1 of 1 undone", x -> x.undo(), TeaBlends.NOT_POSSIBLE);
        TWINS.unchanged(() -> undone(6, 6), "6 of 6 undone", x -> x.undo(), TeaBlends.NOT_POSSIBLE);
        TWINS.unchanged(() -> undone(7, 6), "6 of 7 undone", x -> x.undo(), TeaBlends.NOT_POSSIBLE);
        TWINS.unchanged(() -> undone(200, 6), "6 of 200 undone", x -> x.undo(), TeaBlends.NOT_POSSIBLE);
    }

    private static TeaBlends undone(int days, int times) {
        TeaBlends x = afterDays(days);
        for (int i = 0; i < times; i++) {
            x.undo();
        }
        return x;
    }

    private static void historyOfSix() {
        DUE.by("A history of at most 6 states is kept");
        for (int days = 0; days <= 20; days++) {
            TeaBlends x = afterDays(days);
            int kept = Math.min(days, 6);
            DUE.due(days + " changes", x.count(13), kept);
            for (int left = kept - 1; left >= 0; left--) {
                DUE.due(days + " changes, undo()", x.undo(), left);
                DUE.due("the day then", x.count(0), days - kept + left);
                DUE.due("count(13) then", x.count(13), left);
            }
            DUE.due("none is left of " + days, x.undo(), TeaBlends.NOT_POSSIBLE);
        }
    }

    private static void theOldestIsDropped() {
        DUE.by("when one more is recorded, the oldest one is dropped");
        for (int ahead = 0; ahead <= 8; ahead++) {
            for (int back = 0; back <= Math.min(ahead, 6); back++) {
                for (int again = 0; again <= 8; again++) {
                    ring(ahead, back, again);
                }
            }
        }
    }

    /** Days of 1, some of them undone, then days of 2: each state of the history is told by its day. */
    private static void ring(int ahead, int back, int again) {
        String run = ahead + " ahead, " + back + " back, " + again + " again: ";
        TeaBlends x = undone(ahead, back);
        int day = ahead - back;
        for (int i = 0; i < again; i++) {
            day += 2;
            DUE.due(run + "the day", x.pass(2), day);
        }
        int kept = Math.min(Math.min(ahead, 6) - back + again, 6);
        DUE.due(run + "kept", x.count(13), kept);
        for (int i = 1; i <= kept; i++) {
            day -= i <= again ? 2 : 1;
            x.undo();
            DUE.due(run + "the day, back by " + i, x.count(0), day);
        }
        DUE.due(run + "no more", x.undo(), TeaBlends.NOT_POSSIBLE);
    }

    private static void recorded(String call, ToIntFunction<TeaBlends> change) {
        for (int days : new int[] {0, 1, 5, 6, 7}) {
            TeaBlends x = ready(days);
            int kept = x.count(13);
            DUE.due(call + " answers no error", change.applyAsInt(x) >= 0 ? 1 : 0, 1);
            DUE.due(call + " is recorded", x.count(13), Math.min(kept + 1, 6));
            DUE.due(call + " is undone", x.undo(), Math.min(kept, 5));
            TWINS.alike(call + " is undone", x, ready(days));
        }
    }

    /** A whole blend, an order on the pad, a slot that is saved, and so many days. */
    private static TeaBlends ready(int days) {
        TeaBlends x = Due.shopOf(MILD, 10, 8);
        x.share(0, 20);
        x.save(0);
        while (x.count(13) > 0) {
            x.undo();
        }
        x.restore(0);
        Due.write(x, "d1");
        for (int i = 0; i < days; i++) {
            x.pass(1);
        }
        return x;
    }

    private static void eachChangeIsRecorded() {
        DUE.by("each method that is a change, and returns no error, records the state before it");
        for (int which = 0; which < 2; which++) {
            int setting = which;
            recorded("set()", x -> x.set(setting, 1));
        }
        recorded("leaf()", x -> x.leaf(1, MILD, 1));
        recorded("row()", x -> x.row(0, Due.row(1, 1, 1, 1, 1, 1, 1)));
        recorded("buy()", x -> x.buy(0, 1000));
        for (int which = 0; which < 3; which++) {
            int taste = which;
            recorded("bound()", x -> x.bound(taste, 1, 99));
        }
        recorded("share()", x -> x.share(0, 1));
        recorded("choose()", x -> x.choose());
        recorded("mix()", x -> x.mix(100));
        recorded("pass()", x -> x.pass(1));
        recorded("carryOut()", x -> x.carryOut());
        recorded("restore()", x -> x.restore(0));
    }

    private static void recordedThoughNothingIsDifferent() {
        DUE.by("(also if nothing is different then)");
        recorded("set()", x -> x.set(TeaBlends.FADE, 10));
        recorded("row()", x -> x.row(1, Due.row()));
        recorded("bound()", x -> x.bound(2, 0, 100));
        recorded("share()", x -> x.share(0, 20));
        recorded("choose()", x -> x.choose());
        recorded("restore()", x -> x.restore(0));
        recorded("an order with an error", x -> {
            x.wipe();
            x.put(Due.characters("d0"));
            return x.carryOut();
        });
    }

    private static void errorsRecordNothing() {
        DUE.by("A call that returns an error changes nothing.");
        for (int days : new int[] {0, 5, 6, 7, 13}) {
            TWINS.unchanged(() -> ready(days), "set()", x -> x.set(0, 100), TeaBlends.BAD_VALUE);
            TWINS.unchanged(() -> ready(days), "leaf()", x -> x.leaf(1000, MILD, 1), TeaBlends.BAD_VALUE);
            TWINS.unchanged(() -> ready(days), "row()", x -> x.row(0, -1L), TeaBlends.BAD_VALUE);
            TWINS.unchanged(() -> ready(days), "buy()", x -> x.buy(0, 9999), TeaBlends.NOT_POSSIBLE);
            TWINS.unchanged(() -> ready(days), "bound()", x -> x.bound(0, 2, 1), TeaBlends.BAD_VALUE);
            TWINS.unchanged(() -> ready(days), "share()", x -> x.share(1, 1), TeaBlends.NOT_POSSIBLE);
            TWINS.unchanged(() -> ready(days), "mix()", x -> x.mix(1001), TeaBlends.NOT_POSSIBLE);
            TWINS.unchanged(() -> ready(days), "pass()", x -> x.pass(0), TeaBlends.BAD_VALUE);
            TWINS.unchanged(() -> ready(days), "restore()", x -> x.restore(1), TeaBlends.NOT_POSSIBLE);
            TWINS.unchanged(() -> ready(days), "save()", x -> x.save(2), TeaBlends.BAD_VALUE);
        }
    }

    private static void questionsRecordNothing() {
        DUE.by("---- what if; nothing changes.");
        TWINS.unchanged(Twins::busy, "cheapest(0)", x -> x.cheapest(0), 13);
        TWINS.unchanged(Twins::busy, "swap(0)", x -> x.swap(0), 2);
        TWINS.unchanged(Twins::busy, "looser(0)", x -> x.looser(0), 0);
        TWINS.unchanged(Twins::busy, "keepsFor()", x -> x.keepsFor(), 155);
        TWINS.unchanged(Twins::busy, "mostGrams()", x -> x.mostGrams(), 283);
    }

    private static void padAndSlotsAreNotUndone() {
        DUE.by("everything except the pad, the slots and the history is as it was before it");
        TeaBlends x = Due.shopOf(MILD, 10);
        x.pass(1);
        Due.write(x, "d5");
        x.save(0);
        x.undo();
        DUE.due("the pad", x.count(12), 2);
        DUE.due("the day", x.count(0), 0);
        DUE.due("the slot", x.restore(0), 1);
        DUE.due("the day that was saved", x.count(0), 1);
        DUE.due("the order", x.carryOut(), 1);
        x.undo();
        DUE.due("an order does not come back", x.count(12), 0);
        x.undo();
        DUE.due("the history", x.count(13), 1);
    }

    private static void ordersRecordNothingByThemselves() {
        DUE.by("An order of a text records nothing by itself.");
        for (int orders = 1; orders <= 27; orders++) {
            TeaBlends x = new TeaBlends();
            Due.write(x, "d1;".repeat(orders - 1) + "d1");
            DUE.due(orders + " orders", x.carryOut(), orders);
            DUE.due("one state", x.count(13), 1);
            DUE.due("undone", x.undo(), 0);
            DUE.due("the day then", x.count(0), 0);
        }
        TeaBlends x = ready(6);
        DUE.due("with a full history", x.carryOut(), 1);
        for (int left = 5; left >= 0; left--) {
            DUE.due("undo()", x.undo(), left);
        }
        DUE.due("the second of the days", x.count(0), 1);
    }

    private static void slotsToSaveIn() {
        DUE.by("save: slot: 0 or 1");
        for (int wrong : new int[] {-1, 2, FAR[0], FAR[1]}) {
            TWINS.unchangedAnywhere("save(" + wrong + ")", x -> x.save(wrong), TeaBlends.BAD_VALUE);
        }
        DUE.by("save: Returns how many leaves there are");
        TeaBlends x = new TeaBlends();
        for (int leaves = 0; leaves <= 5; leaves++) {
            DUE.due("save(0) of " + leaves, x.save(0), leaves);
            DUE.due("save(1) of " + leaves, x.save(1), leaves);
            DUE.due("it is no change", x.count(13), leaves);
            x.leaf(1, MILD, 1);
        }
    }

    private static void savedAnew() {
        DUE.by("Saves everything except the pad, the history and the slots in a slot, and overwrites what was saved"
            + " there.");
        TeaBlends x = afterDays(1);
        x.save(0);
        x.save(1);
        x.pass(1);
        x.save(0);
        Due.write(x, "d7");
        x.restore(1);
        DUE.due("the slot 1", x.count(0), 1);
        x.restore(0);
        DUE.due("the slot 0, overwritten", x.count(0), 2);
        DUE.due("the pad", x.count(12), 2);
        DUE.due("the history", x.count(13), 4);
        x.save(1);
        x.restore(1);
        DUE.due("the slot 1, overwritten", x.count(0), 2);
    }

    private static void slotsToRestore() {
        DUE.by("restore: slot: 0 or 1");
        for (int wrong : new int[] {-1, 2, FAR[0], FAR[1]}) {
            TWINS.unchangedAnywhere("restore(" + wrong + ")", x -> x.restore(wrong), TeaBlends.BAD_VALUE);
        }
        TeaBlends x = Twins.full();
        DUE.due("the slot 0", x.restore(0), 5);
        DUE.due("the share of the leaf 4 then", x.of(4, 6), 0);
        DUE.due("the slot 1", x.restore(1), 5);
        DUE.due("the share of the leaf 3 then", x.of(3, 6), 0);
    }

    private static void restoredFromASlotThatKeepsIt() {
        DUE.by("Restores what was saved last in a slot, which keeps it.");
        Consumer<TeaBlends> spoil = x -> {
            x.leaf(1, MILD, 1);
            x.row(0, Due.row(9, 9, 9, 9, 9, 9, 9));
            x.buy(0, 9);
            x.bound(1, 9, 90);
            x.share(0, 9);
            x.set(TeaBlends.WEEK, 3);
            x.pass(9);
        };
        TeaBlends x = ready(0);
        for (int times = 0; times < 4; times++) {
            spoil.accept(x);
            DUE.due("the leaves", x.restore(0), 2);
            int[] of = {10, 50, 50, 50, 1000, 0, 20};
            TWINS.alike("restore(0)", x, ready(0));
            for (int what = 0; what <= 6; what++) {
                DUE.due("of(0, " + what + ")", x.of(0, what), of[what]);
            }
            DUE.due("the third leaf", x.of(2, 0), TeaBlends.NO_SUCH);
            DUE.due("the low bound", x.count(5), 0);
            DUE.due("the week", x.count(11), 7);
            DUE.due("the day", x.count(0), 0);
        }
    }

    private static void nothingSaved() {
        DUE.by("NOT_POSSIBLE if nothing was saved in it");
        TWINS.unchanged(TeaBlends::new, "restore(0)", x -> x.restore(0), TeaBlends.NOT_POSSIBLE);
        TWINS.unchanged(TeaBlends::new, "restore(1)", x -> x.restore(1), TeaBlends.NOT_POSSIBLE);
        TWINS.unchanged(Twins::busy, "the other slot", x -> x.restore(1), TeaBlends.NOT_POSSIBLE);
        TWINS.unchanged(() -> savedIn(1), "the slot 0", x -> x.restore(0), TeaBlends.NOT_POSSIBLE);
        TWINS.unchanged(() -> savedIn(2), "a slot that is none", x -> x.restore(0), TeaBlends.NOT_POSSIBLE);
        TeaBlends x = savedIn(0);
        DUE.due("a new shop saved is something", x.restore(0), 0);
        x.undo();
        DUE.due("undo() takes no slot away", x.restore(0), 0);
    }

    private static TeaBlends savedIn(int slot) {
        TeaBlends x = new TeaBlends();
        x.save(slot);
        return x;
    }

    /** So many leaves, each with other numbers, also in its tastes. */
    private static void leavesFrom(TeaBlends x, int leaves, int first) {
        for (int i = first; i < first + leaves; i++) {
            x.leaf(i, Due.tastes(i + 1, i + 2, i + 3), i + 4);
        }
    }

    private static void emptyAndFullStates() {
        DUE.by("Returns how many leaves there are then");
        for (int leaves = 0; leaves <= 5; leaves++) {
            for (int others = 0; others <= 5; others++) {
                TeaBlends x = new TeaBlends();
                leavesFrom(x, leaves, 10);
                x.save(1);
                for (int i = 0; i < leaves; i++) {
                    x.undo();
                }
                leavesFrom(x, others, 50);
                DUE.due(leaves + " for " + others, x.restore(1), leaves);
                TeaBlends due = new TeaBlends();
                leavesFrom(due, leaves, 10);
                TWINS.alike(leaves + " for " + others, x, due);
                DUE.due("one more", x.leaf(5, MILD, 1), leaves == 5 ? TeaBlends.TOO_MANY : leaves);
            }
        }
    }
}
