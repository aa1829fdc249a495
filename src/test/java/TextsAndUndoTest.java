/** The promises 22 to 28: texts, undo, and saved states. */
public final class TextsAndUndoTest {
    private static final int MILD = Due.tastes(50, 50, 50);
    private static final Due DUE = new Due();

    public static void main(String[] args) {
        putting();
        fullPad();
        wiping();
        faults();
        carryingOut();
        ordersWithErrors();
        undoing();
        undoingEachChange();
        wholeStates();
        saving();
        restoring();
        DUE.end();
    }

    private static void putting() {
        TeaBlends x = new TeaBlends();
        DUE.due("22: no character", x.put(0), TeaBlends.BAD_VALUE);
        DUE.due("22: one", x.put('d'), 1);
        DUE.due("22: 33", x.put(33), 2);
        DUE.due("22: 126", x.put(126), 3);
        DUE.due("22: 32", x.put(32), TeaBlends.BAD_VALUE);
        DUE.due("22: 127", x.put(127), TeaBlends.BAD_VALUE);
        DUE.due("22: 255", x.put(255), TeaBlends.BAD_VALUE);
        DUE.due("22: -1", x.put(-1), TeaBlends.BAD_VALUE);
        DUE.due("22: a 0 at the end", x.put('d' << 8), TeaBlends.BAD_VALUE);
        DUE.due("22: a 0 between", x.put(('d' << 16) + '1'), TeaBlends.BAD_VALUE);
        DUE.due("22: a bit above a 0", x.put(Long.MIN_VALUE | '1'), TeaBlends.BAD_VALUE);
        DUE.due("22: eight", x.put(Due.characters("12345678")), 11);
        DUE.due("22: a wrong one first of eight", x.put(Due.characters("12345678") & ~(255L << 56) | 200L << 56),
            TeaBlends.BAD_VALUE);
        DUE.due("22: the length", x.count(12), 11);
        DUE.due("22: no change", x.count(13), 0);
        x = new TeaBlends();
        x.put(Due.characters("d1;"));
        x.put(Due.characters("d20"));
        DUE.due("22: the order of characters", x.carryOut(), 2);
        DUE.due("22: 1 + 20 days", x.count(0), 21);
    }

    private static void fullPad() {
        TeaBlends x = new TeaBlends();
        for (int i = 1; i <= 9; i++) {
            DUE.due("22: eight more", x.put(Due.characters("d1;d1;d1")), 8 * i);
        }
        DUE.due("22: seven more", x.put(Due.characters("1234567")), 79);
        DUE.due("22: two too many", x.put(Due.characters("12")), TeaBlends.TOO_MANY);
        DUE.due("22: wrong and too many", x.put(Due.characters("1 ")), TeaBlends.BAD_VALUE);
        DUE.due("22: the 80th", x.put('1'), 80);
        DUE.due("22: the 81st", x.put('1'), TeaBlends.TOO_MANY);
        DUE.due("22: still 80", x.count(12), 80);
    }

    private static void wiping() {
        TeaBlends x = new TeaBlends();
        DUE.due("23: an empty one", x.wipe(), 0);
        Due.write(x, "d1;d2");
        DUE.due("23: of five", x.wipe(), 5);
        DUE.due("23: empty", x.count(12), 0);
        DUE.due("23: no change", x.count(13), 0);
        Due.write(x, "d3");
        DUE.due("23: written anew", x.carryOut(), 1);
        DUE.due("23: 3 days", x.count(0), 3);
    }

    private static void fault(String text, int want) {
        TeaBlends x = new TeaBlends();
        Due.write(x, text);
        DUE.due("24: fault() of " + text, x.fault(), want);
        DUE.due("24: fault() of " + text + " again", x.fault(), want);
        DUE.due("25: the length of " + text, x.count(12), text.length());
        if (want != TeaBlends.NONE) {
            DUE.due("25: carryOut() of " + text, x.carryOut(), TeaBlends.BAD_TEXT);
            DUE.due("25: the pad stays", x.count(12), text.length());
            DUE.due("25: no change", x.count(13), 0);
        }
    }

    private static void faults() {
        String[] right = {"d0", "d1", "m9999", "s0=0", "s9=9999", "+0:0,0,0*0", "+9999:9999,9999,9999*9999",
            "d1;d2;m3", "+1:2,3,4*5;s0=20;m1;d1", "m10;m100;m1000"};
        for (String text : right) {
            fault(text, TeaBlends.NONE);
            fault(text + ";", text.length() + 1);
            fault(text + "x", text.length());
            fault(text + ";x", text.length() + 1);
            fault(text + ";;", text.length() + 1);
            fault(text + "+", text.length());
        }
        fault("", 0);
        fault(";", 0);
        fault("1", 0);
        fault("D1", 0);
        fault("d", 1);
        fault("d;", 1);
        fault("d+", 1);
        fault("d-1", 1);
        fault("d01", 2);
        fault("d00", 2);
        fault("d99999", 5);
        fault("d10000", 5);
        fault("d1000;m12345", 11);
        fault("s", 1);
        fault("s=1", 1);
        fault("s10=1", 2);
        fault("s00=1", 2);
        fault("s1:1", 2);
        fault("s1=", 3);
        fault("s1=01", 4);
        fault("s1=1=1", 4);
        fault("+", 1);
        fault("+1", 2);
        fault("+1,", 2);
        fault("+1:", 3);
        fault("+1:2,3*4", 6);
        fault("+1:2,3,4,5", 8);
        fault("+1:2,3,4*", 9);
        fault("+1:2,3,4*;", 9);
        fault("+1:2:3", 4);
        fault("+00:1,2,3*4", 2);
        fault("+1:00,2,3*4", 4);
        fault("+1:1,12345,3*4", 9);
        fault("d1d1", 2);
        fault("m1,2", 2);
    }

    private static void carryingOut() {
        TeaBlends x = new TeaBlends();
        DUE.due("25: empty", x.carryOut(), TeaBlends.BAD_TEXT);
        Due.write(x, "+30:80,40,100*500;+999:100,0,7*9999;s0=20;m60;d99;d1;s0=15;s1=5");
        DUE.due("25: all", x.carryOut(), 8);
        DUE.due("25: the pad is empty", x.count(12), 0);
        DUE.due("25: one change", x.count(13), 1);
        DUE.due("25: the day", x.count(0), 100);
        DUE.due("25: grams", x.count(2), 60);
        DUE.due("25: coins", x.count(3), 18);
        x.set(TeaBlends.FADE, 0);
        int[] first = {30, 80, 40, 100, 440, 100, 15};
        int[] second = {999, 100, 0, 7, 9999, 100, 5};
        for (int what = 0; what < 7; what++) {
            DUE.due("25: of(0, " + what + ")", x.of(0, what), first[what]);
            DUE.due("25: of(1, " + what + ")", x.of(1, what), second[what]);
        }
        x.undo();
        DUE.due("25: undone at once", x.undo(), 0);
        DUE.due("25: no leaf then", x.count(1), 0);
        DUE.due("25: no coins then", x.count(3), 0);
        Due.write(x, "d1;d1;d1;d1;d1;d1;d1;d1;d1;d1;d1;d1;d1;d1;d1;d1;d1;d1;d1;d1;d1;d1;d1;d1;d1;d1");
        DUE.due("25: a full pad", x.put(Due.characters(";d")), 79);
        DUE.due("25: a text that ends too early", x.carryOut(), TeaBlends.BAD_TEXT);
        DUE.due("25: the 80th character", x.put('9'), 80);
        DUE.due("25: as many orders as a pad holds", x.carryOut(), 27);
        DUE.due("25: 26 + 9 days", x.count(0), 35);
    }

    private static void stopsAt(String text, int want) {
        TeaBlends x = Due.shopOf(MILD, 10, 20);
        int before = x.count(13);
        Due.write(x, text);
        DUE.due("25: carryOut() of " + text, x.carryOut(), want);
        DUE.due("25: a change, " + text, x.count(13), before + 1);
        DUE.due("25: empty, " + text, x.count(12), 0);
        DUE.due("25: the days of " + text, x.count(0), want);
        DUE.due("25: undone, " + text, x.undo(), before);
        DUE.due("25: no day then, " + text, x.count(0), 0);
    }

    private static void ordersWithErrors() {
        stopsAt("d0;d1", 0);
        stopsAt("d100;d1", 0);
        stopsAt("d1;d1;d0;d1", 2);
        stopsAt("d1;s2=1;d1", 1);
        stopsAt("d1;s9=1;d1", 1);
        stopsAt("d1;s0=21;d1", 1);
        stopsAt("d1;m0;d1", 1);
        stopsAt("d1;m1;d1", 1);
        stopsAt("d1;+1000:0,0,0*0;d1", 1);
        stopsAt("d1;+1:128,0,0*0;d1", 1);
        stopsAt("d1;+1:0,128,0*0;d1", 1);
        stopsAt("d1;+1:0,0,128*0;d1", 1);
        stopsAt("d1;+1:101,0,0*0;d1", 1);
        TeaBlends x = Due.shopOf(MILD, 1, 2, 3);
        Due.write(x, "+4:5,6,7*8;+5:6,7,8*9;+1:1,1,1*1;d1");
        DUE.due("25: too many leaves", x.carryOut(), 2);
        DUE.due("25: the fifth", x.of(4, 4), 9);
        DUE.due("25: and no day", x.count(0), 0);
        x = Due.shopOf(MILD, 1, 2);
        Due.write(x, "s0=12;s1=9;s1=8");
        DUE.due("25: shares above 20", x.carryOut(), 1);
        DUE.due("25: the first share", x.of(0, 6), 12);
        DUE.due("25: the second share", x.of(1, 6), 0);
    }

    private static void undoing() {
        TeaBlends x = new TeaBlends();
        DUE.due("26: nothing", x.undo(), TeaBlends.NOT_POSSIBLE);
        for (int day = 1; day <= 9; day++) {
            x.pass(1);
            DUE.due("26: at most 6", x.count(13), Math.min(day, 6));
        }
        for (int left = 5; left >= 0; left--) {
            DUE.due("26: undo()", x.undo(), left);
            DUE.due("26: the day", x.count(0), 3 + left);
        }
        DUE.due("26: no more", x.undo(), TeaBlends.NOT_POSSIBLE);
        DUE.due("26: the day stays", x.count(0), 3);
        x.pass(1);
        x.pass(0);
        x.share(0, 0);
        x.choose();
        x.restore(0);
        x.carryOut();
        x.save(0);
        x.put('d');
        x.wipe();
        DUE.due("26: errors and no changes", x.count(13), 1);
        x.set(TeaBlends.FADE, 10);
        DUE.due("26: also if nothing is different", x.count(13), 2);
        DUE.due("26: undone", x.undo(), 1);
        DUE.due("26: and more", x.undo(), 0);
        DUE.due("26: the day before", x.count(0), 3);
    }

    /** A failed change with a full history may not lose the oldest state. */
    private static void undoingEachChange() {
        TeaBlends x = new TeaBlends();
        for (int day = 1; day <= 6; day++) {
            x.pass(1);
        }
        for (int i = 0; i < 10; i++) {
            x.pass(100);
            x.set(TeaBlends.FADE, -1);
        }
        for (int left = 5; left >= 0; left--) {
            x.undo();
        }
        DUE.due("26: the oldest one", x.count(0), 0);
        x = Due.shopOf(MILD, 10, 20);
        x.save(1);
        x.row(0, Due.row(1));
        x.buy(0, 5);
        x.bound(0, 1, 99);
        x.bound(2, 2, 98);
        x.set(TeaBlends.WEEK, 3);
        x.set(TeaBlends.FADE, 3);
        x.restore(1);
        Due.write(x, "d");
        x.undo();
        DUE.due("26: restore() undone, fade", x.count(10), 3);
        DUE.due("26: restore() undone, bounds", x.count(6), 2);
        x.undo();
        DUE.due("26: set() undone", x.count(10), 10);
        x.undo();
        DUE.due("26: set() undone again", x.count(11), 7);
        x.undo();
        DUE.due("26: bound() undone, low", x.count(6), 0);
        DUE.due("26: bound() undone, high", x.count(9), 100);
        x.undo();
        DUE.due("26: bound() undone again", x.count(7), 100);
        DUE.due("26: buy() undone", x.undo(), 0);
        DUE.due("26: its stock", x.of(0, 4), 1000);
        DUE.due("26: row() is not undone", x.of(0, 0), 11);
        DUE.due("26: the pad stays", x.count(12), 1);
        DUE.due("26: the slot stays", x.restore(1), 2);
        DUE.due("26: as it was saved", x.of(0, 0), 10);
    }

    /** All that can be asked of the state of a shop, but for its pad and its history. */
    private static String state(TeaBlends x) {
        StringBuilder state = new StringBuilder();
        for (int leaf = 0; leaf < 5; leaf++) {
            for (int what = 0; what < 7; what++) {
                state.append(x.of(leaf, what)).append(' ');
            }
        }
        for (int what = 0; what < 12; what++) {
            state.append(x.count(what)).append(' ');
        }
        return state.append(x.mean()).toString();
    }

    private static int change(TeaBlends x, int kind) {
        switch (kind) {
            case 0: return x.set(TeaBlends.FADE, 77);
            case 1: return x.leaf(77, Due.tastes(7, 7, 7), 77);
            case 2: return x.row(1, Due.row(7, 7, 7, 7, 7, 7, 7));
            case 3: return x.buy(1, 777);
            case 4: return x.bound(2, 7, 77);
            case 5: return x.share(2, 1);
            case 6: return x.choose();
            case 7: return x.mix(77);
            case 8: return x.pass(7);
            case 9: return x.carryOut();
            default: return x.restore(0);
        }
    }

    /** Each change alone, then a second one over it, undone step by step; and all of it kept in a slot. */
    private static void wholeStates() {
        for (int kind = 0; kind <= 10; kind++) {
            TeaBlends x = Due.shopOf(MILD, 30, 20, 40);
            x.save(0);
            x.share(0, 12);
            x.share(2, 8);
            x.mix(500);
            x.pass(3);
            x.row(0, Due.row(0, 0, 0, -4));
            Due.write(x, "d5;m9;s2=1;+1:2,3,4*5");
            String before = state(x);
            x.save(1);
            DUE.due("26: change " + kind, change(x, kind) >= 0 ? 1 : 0, 1);
            String then = state(x);
            DUE.due("26: it changes something, " + kind, then.equals(before) ? 1 : 0, 0);
            DUE.due("26: a second change over it, " + kind, change(x, kind == 8 ? 0 : 8) >= 0 ? 1 : 0, 1);
            x.undo();
            DUE.due("26: the second one undone, " + kind, state(x).equals(then) ? 1 : 0, 1);
            x.undo();
            DUE.due("26: the first one undone, " + kind, state(x).equals(before) ? 1 : 0, 1);
            change(x, kind);
            x.restore(1);
            DUE.due("28: all restored, " + kind, state(x).equals(before) ? 1 : 0, 1);
        }
    }

    private static void saving() {
        TeaBlends x = new TeaBlends();
        DUE.due("27: save(-1)", x.save(-1), TeaBlends.BAD_VALUE);
        DUE.due("27: save(2)", x.save(2), TeaBlends.BAD_VALUE);
        DUE.due("27: save(0)", x.save(0), 0);
        x.leaf(1, MILD, 1);
        DUE.due("27: save(1)", x.save(1), 1);
        DUE.due("27: restore(0)", x.restore(0), 0);
        DUE.due("27: restore(1)", x.restore(1), 1);
        x.leaf(2, MILD, 1);
        DUE.due("27: overwritten", x.save(0), 2);
        x.undo();
        DUE.due("27: restore(0) then", x.restore(0), 2);
        DUE.due("27: the second leaf", x.of(1, 0), 2);
        x = new TeaBlends();
        x.leaf(5, MILD, 6);
        x.save(0);
        x.undo();
        x.leaf(6, Due.tastes(1, 2, 3), 7);
        DUE.due("27: one leaf for another", x.restore(0), 1);
        DUE.due("27: its price", x.of(0, 0), 5);
        DUE.due("27: its scent", x.of(0, 3), 50);
        x.undo();
        DUE.due("27: the other leaf's price", x.of(0, 0), 6);
        DUE.due("27: the other leaf's scent", x.of(0, 3), 3);
    }

    private static void restoring() {
        TeaBlends x = Due.shopOf(MILD, 100);
        DUE.due("28: restore(-1)", x.restore(-1), TeaBlends.BAD_VALUE);
        DUE.due("28: restore(2)", x.restore(2), TeaBlends.BAD_VALUE);
        DUE.due("28: restore(0)", x.restore(0), TeaBlends.NOT_POSSIBLE);
        x.row(0, Due.row(0, 0, 5));
        x.share(0, 20);
        x.mix(100);
        x.pass(2);
        x.bound(1, 3, 97);
        x.set(TeaBlends.FADE, 50);
        x.set(TeaBlends.WEEK, 6);
        x.save(1);
        DUE.due("28: only the other slot", x.restore(0), TeaBlends.NOT_POSSIBLE);
        x.leaf(1, MILD, 1);
        x.row(0, Due.row());
        x.share(0, 1);
        x.buy(0, 100);
        x.pass(9);
        x.bound(1, 0, 100);
        x.set(TeaBlends.FADE, 0);
        x.set(TeaBlends.WEEK, 1);
        Due.write(x, "d1;d1");
        for (int times = 0; times < 2; times++) {
            DUE.due("28: restore(1)", x.restore(1), 1);
            int[] of = {105, 45, 45, 45, 900, 2, 20};
            for (int what = 0; what < 7; what++) {
                DUE.due("28: of(0, " + what + ")", x.of(0, what), of[what]);
            }
            int[] counts = {2, 1, 100, 100, 0, 3, 0, 100, 97, 100, 50, 6, 5 * (1 - times), 6};
            for (int what = 0; what < counts.length; what++) {
                DUE.due("28: count(" + what + ")", x.count(what), counts[what]);
            }
            x.pass(1);
            x.share(0, 2);
            x.wipe();
        }
        DUE.due("28: restored, undone", x.undo(), 5);
        x.undo();
        x.undo();
        DUE.due("28: before it", x.of(0, 6), 2);
    }
}
