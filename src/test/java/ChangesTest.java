/** The promises 1 to 10: a new object, and each change. */
public final class ChangesTest {
    private static final int MILD = Due.tastes(50, 50, 50);
    private static final Due DUE = new Due();

    public static void main(String[] args) {
        newObject();
        settings();
        leaves();
        rows();
        buying();
        bounds();
        shares();
        choosing();
        mixing();
        mixingWithTooLittle();
        passing();
        DUE.end();
    }

    private static void newObject() {
        TeaBlends x = new TeaBlends();
        int[] counts = {0, 0, 0, 0, 0, 0, 0, 100, 100, 100, 10, 7, 0, 0};
        for (int what = 0; what < counts.length; what++) {
            DUE.due("1: count(" + what + ")", x.count(what), counts[what]);
        }
        for (int what = 0; what <= 5; what++) {
            DUE.due("1: blend(" + what + ")", x.blend(what), 0);
        }
        DUE.due("1: of(0, 0)", x.of(0, 0), TeaBlends.NO_SUCH);
        DUE.due("1: undo()", x.undo(), TeaBlends.NOT_POSSIBLE);
        DUE.due("1: restore(0)", x.restore(0), TeaBlends.NOT_POSSIBLE);
        TeaBlends other = new TeaBlends();
        x.leaf(1, MILD, 1);
        x.set(TeaBlends.FADE, 3);
        x.put('d');
        x.save(1);
        DUE.due("1: another object's leaves", other.count(1), 0);
        DUE.due("1: another object's fade", other.count(10), 10);
        DUE.due("1: another object's pad", other.count(12), 0);
        DUE.due("1: another object's slot", other.restore(1), TeaBlends.NOT_POSSIBLE);
    }

    private static void settings() {
        TeaBlends x = new TeaBlends();
        DUE.due("2: set(FADE, 0)", x.set(TeaBlends.FADE, 0), 10);
        DUE.due("2: set(FADE, 99)", x.set(TeaBlends.FADE, 99), 0);
        DUE.due("2: set(WEEK, 1)", x.set(TeaBlends.WEEK, 1), 7);
        DUE.due("2: set(WEEK, 7)", x.set(TeaBlends.WEEK, 7), 1);
        int[][] wrong = {{-1, 5}, {2, 5}, {0, -1}, {0, 100}, {1, 0}, {1, 8}, {1, -1},
            {Integer.MIN_VALUE, 5}, {Integer.MAX_VALUE, 5}, {0, Integer.MAX_VALUE}, {1, Integer.MIN_VALUE}};
        for (int[] w : wrong) {
            DUE.due("2: set(" + w[0] + ", " + w[1] + ")", x.set(w[0], w[1]), TeaBlends.BAD_VALUE);
        }
        DUE.due("2: count(10)", x.count(10), 99);
        DUE.due("2: count(11)", x.count(11), 7);
        DUE.due("2: four changes", x.count(13), 4);
        x.set(TeaBlends.FADE, 20);
        x.leaf(10, Due.tastes(100, 55, 1), 0);
        x.pass(3);
        DUE.due("2: 100 * 940 / 1000", x.of(0, 1), 94);
        DUE.due("2: 55 * 940 / 1000", x.of(0, 2), 51);
        DUE.due("2: 1 * 940 / 1000", x.of(0, 3), 0);
        x.row(0, Due.row(1, 2, 3, 4, 5, 6, 7));
        DUE.due("2: the place 3 of 7", x.of(0, 0), 14);
        x.set(TeaBlends.WEEK, 2);
        DUE.due("2: the place 1 of 2", x.of(0, 0), 12);
        x.set(TeaBlends.WEEK, 3);
        DUE.due("2: the place 0 of 3", x.of(0, 0), 11);
    }

    private static void leaves() {
        TeaBlends x = new TeaBlends();
        int[][] wrong = {{-1, MILD, 0}, {1000, MILD, 0}, {0, Due.tastes(101, 0, 0), 0}, {0, Due.tastes(0, 101, 0), 0},
            {0, Due.tastes(0, 0, 101), 0}, {0, Due.tastes(127, 127, 127), 0}, {0, MILD, -1}, {0, MILD, 10000},
            {Integer.MIN_VALUE, MILD, 0}, {0, -1, 0}, {0, MILD, Integer.MAX_VALUE}};
        for (int[] w : wrong) {
            DUE.due("3: leaf(" + w[0] + ", " + w[1] + ", " + w[2] + ")", x.leaf(w[0], w[1], w[2]), TeaBlends.BAD_VALUE);
        }
        DUE.due("3: no leaf came", x.count(1), 0);
        DUE.due("3: the first", x.leaf(999, Due.tastes(100, 0, 7), 9999), 0);
        x.pass(5);
        DUE.due("3: bits above", x.leaf(0, Due.tastes(1, 2, 100) | 0xFFE00000, 0), 1);
        int[] first = {999, 95, 0, 6, 9999, 5, 0};
        int[] second = {0, 1, 2, 100, 0, 0, 0};
        for (int what = 0; what < 7; what++) {
            DUE.due("3: of(0, " + what + ")", x.of(0, what), first[what]);
            DUE.due("3: of(1, " + what + ")", x.of(1, what), second[what]);
        }
        DUE.due("3: the third", x.leaf(1, MILD, 1), 2);
        DUE.due("3: the fourth", x.leaf(1, MILD, 1), 3);
        DUE.due("3: the fifth", x.leaf(1, MILD, 1), 4);
        DUE.due("3: the sixth", x.leaf(1, MILD, 1), TeaBlends.TOO_MANY);
        DUE.due("3: a wrong sixth", x.leaf(1000, MILD, 1), TeaBlends.BAD_VALUE);
        DUE.due("3: five leaves", x.count(1), 5);
        x = Due.shopOf(MILD, 50);
        x.row(0, Due.row(9, 9, 9, 9, 9, 9, 9));
        x.share(0, 4);
        x.pass(2);
        for (int i = 0; i < 4; i++) {
            x.undo();
        }
        x.leaf(40, MILD, 3);
        DUE.due("3: a new row after undo", x.of(0, 0), 40);
        DUE.due("3: a new age after undo", x.of(0, 5), 0);
        DUE.due("3: a new share after undo", x.of(0, 6), 0);
    }

    private static void rows() {
        TeaBlends x = Due.shopOf(MILD, 20, 4);
        DUE.due("4: row today", x.row(0, Due.row(-9, 9, 1, 2, 3, 4, 5)), 11);
        DUE.due("4: at least 0", x.row(1, Due.row(-9, -4, 0, 0, 0, 0, -3)), 0);
        int[] prices = {29, 21, 22, 23, 24, 25, 11, 29};
        int[] others = {0, 4, 4, 4, 4, 1, 0, 0};
        for (int day = 1; day <= 8; day++) {
            x.pass(1);
            DUE.due("4: the price on the day " + day, x.of(0, 0), prices[day - 1]);
            DUE.due("4: the other price on the day " + day, x.of(1, 0), others[day - 1]);
        }
        DUE.due("4: bits above", x.row(0, Due.row(0, 5) | -1L << 35), 25);
        DUE.due("4: a change of 19 - 9", x.row(0, 19), TeaBlends.BAD_VALUE);
        for (int place = 0; place < 7; place++) {
            long row = Due.row() & ~(31L << 5 * place) | 19L << 5 * place;
            DUE.due("4: 10 in the place " + place, x.row(0, row), TeaBlends.BAD_VALUE);
            row |= 31L << 5 * place;
            DUE.due("4: 22 in the place " + place, x.row(0, row), TeaBlends.BAD_VALUE);
        }
        DUE.due("4: nothing changed", x.of(0, 0), 25);
        x.set(TeaBlends.WEEK, 1);
        DUE.due("4: a place behind the week", x.row(0, Due.row() | 31L << 30), TeaBlends.BAD_VALUE);
        DUE.due("4: no leaf 2", x.row(2, Due.row()), TeaBlends.NO_SUCH);
        DUE.due("4: no leaf -1", x.row(-1, -1L), TeaBlends.NO_SUCH);
        DUE.due("4: no leaf 5", x.row(5, Due.row()), TeaBlends.NO_SUCH);
    }

    private static void buying() {
        TeaBlends x = new TeaBlends();
        x.leaf(1, MILD, 10);
        x.leaf(1, MILD, 0);
        x.pass(7);
        DUE.due("5: buy(0, 4)", x.buy(0, 4), 14);
        DUE.due("5: 10 * 7 / 14", x.of(0, 5), 5);
        DUE.due("5: buy(0, 1)", x.buy(0, 1), 15);
        DUE.due("5: 14 * 5 / 15", x.of(0, 5), 4);
        DUE.due("5: the other leaf's age", x.of(1, 5), 7);
        DUE.due("5: into an empty stock", x.buy(1, 9999), 9999);
        DUE.due("5: all fresh", x.of(1, 5), 0);
        DUE.due("5: one too many", x.buy(1, 1), TeaBlends.NOT_POSSIBLE);
        DUE.due("5: up to 9999", x.buy(0, 9984), 9999);
        DUE.due("5: 0 grams", x.buy(0, 0), TeaBlends.BAD_VALUE);
        DUE.due("5: -1 grams", x.buy(0, -1), TeaBlends.BAD_VALUE);
        DUE.due("5: 10000 grams", x.buy(0, 10000), TeaBlends.BAD_VALUE);
        DUE.due("5: 2^31 - 1 grams", x.buy(0, Integer.MAX_VALUE), TeaBlends.BAD_VALUE);
        DUE.due("5: no leaf 2", x.buy(2, 0), TeaBlends.NO_SUCH);
        DUE.due("5: no leaf -1", x.buy(-1, 1), TeaBlends.NO_SUCH);
        DUE.due("5: the stock stays", x.of(0, 4), 9999);
    }

    private static void bounds() {
        TeaBlends x = new TeaBlends();
        DUE.due("6: bound(0, 3, 80)", x.bound(0, 3, 80), 100);
        DUE.due("6: bound(1, 100, 100)", x.bound(1, 100, 100), 100);
        DUE.due("6: bound(2, 0, 0)", x.bound(2, 0, 0), 100);
        DUE.due("6: bound(0, 5, 5)", x.bound(0, 5, 5), 380);
        DUE.due("6: bound(1, 0, 100)", x.bound(1, 0, 100), 10100);
        DUE.due("6: bound(2, 0, 100)", x.bound(2, 0, 100), 0);
        int[][] wrong = {{0, -1, 5}, {0, 5, 4}, {0, 0, 101}, {0, 101, 101}, {0, -1, -1}, {0, 0, -1},
            {0, Integer.MIN_VALUE, 100}, {0, 0, Integer.MAX_VALUE}};
        for (int[] w : wrong) {
            DUE.due("6: bound(0, " + w[1] + ", " + w[2] + ")", x.bound(w[0], w[1], w[2]), TeaBlends.BAD_VALUE);
        }
        DUE.due("6: no taste 3", x.bound(3, -1, 5), TeaBlends.NO_SUCH);
        DUE.due("6: no taste -1", x.bound(-1, 0, 5), TeaBlends.NO_SUCH);
        DUE.due("6: the low bound", x.count(4), 5);
        DUE.due("6: the high bound", x.count(7), 5);
    }

    private static void shares() {
        TeaBlends x = Due.shopOf(MILD, 1, 2, 3);
        DUE.due("7: share(0, 20)", x.share(0, 20), 20);
        DUE.due("7: share(1, 1)", x.share(1, 1), TeaBlends.NOT_POSSIBLE);
        DUE.due("7: share(1, 0)", x.share(1, 0), 20);
        DUE.due("7: share(0, 12)", x.share(0, 12), 12);
        DUE.due("7: share(1, 9)", x.share(1, 9), TeaBlends.NOT_POSSIBLE);
        DUE.due("7: share(1, 8)", x.share(1, 8), 20);
        DUE.due("7: the same once more", x.share(1, 8), 20);
        DUE.due("7: share(1, 3)", x.share(1, 3), 15);
        DUE.due("7: of(1, 6)", x.of(1, 6), 3);
        DUE.due("7: share(0, 21)", x.share(0, 21), TeaBlends.BAD_VALUE);
        DUE.due("7: share(0, -1)", x.share(0, -1), TeaBlends.BAD_VALUE);
        DUE.due("7: share(3, 21)", x.share(3, 21), TeaBlends.NO_SUCH);
        DUE.due("7: share(-1, 1)", x.share(-1, 1), TeaBlends.NO_SUCH);
        DUE.due("7: of(0, 6)", x.of(0, 6), 12);
    }

    private static void choosing() {
        TeaBlends x = new TeaBlends();
        DUE.due("8: no leaf", x.choose(), TeaBlends.NOT_POSSIBLE);
        DUE.due("8: no change", x.count(13), 0);
        x.leaf(30, Due.tastes(80, 40, 10), 5);
        x.leaf(11, Due.tastes(20, 60, 10), 5);
        x.leaf(1, Due.tastes(0, 0, 100), 5);
        x.bound(0, 30, 100);
        x.bound(2, 0, 10);
        x.share(2, 9);
        DUE.due("8: (4 * 30 + 16 * 11) / 20", x.choose(), 14);
        DUE.due("8: the leaf 0", x.of(0, 6), 4);
        DUE.due("8: the leaf 1", x.of(1, 6), 16);
        DUE.due("8: the leaf 2", x.of(2, 6), 0);
        DUE.due("8: it is a change", x.undo(), 5);
        DUE.due("8: and can be undone", x.of(2, 6), 9);
        x.bound(1, 99, 100);
        DUE.due("8: none", x.choose(), TeaBlends.NOT_POSSIBLE);
        DUE.due("8: the shares stay", x.of(2, 6), 9);
    }

    private static void mixing() {
        TeaBlends x = Due.shopOf(MILD, 33, 101);
        DUE.due("9: not whole", x.mix(1), TeaBlends.NOT_POSSIBLE);
        x.share(0, 13);
        x.share(1, 7);
        DUE.due("9: (429 + 707) / 20", x.mix(33), 56);
        DUE.due("9: 33 * 13 / 20 up", x.of(0, 4), 978);
        DUE.due("9: 33 * 7 / 20 up", x.of(1, 4), 988);
        DUE.due("9: the grams", x.count(2), 33);
        DUE.due("9: 33 * 56 / 100", x.count(3), 18);
        DUE.due("9: once more", x.mix(1), 56);
        DUE.due("9: a gram of each", x.of(0, 4), 977);
        DUE.due("9: a gram of the other", x.of(1, 4), 987);
        DUE.due("9: 1 * 56 / 100 is nothing", x.count(3), 18);
        DUE.due("9: just 20", x.mix(20), 56);
        DUE.due("9: no more than 13", x.of(0, 4), 964);
        DUE.due("9: 0 grams", x.mix(0), TeaBlends.BAD_VALUE);
        DUE.due("9: -1 grams", x.mix(-1), TeaBlends.BAD_VALUE);
        DUE.due("9: 10000 grams", x.mix(10000), TeaBlends.BAD_VALUE);
        x.bound(1, 0, 48);
        DUE.due("9: above a bound", x.mix(1), TeaBlends.NOT_POSSIBLE);
        x.bound(1, 51, 100);
        DUE.due("9: below a bound", x.mix(1), TeaBlends.NOT_POSSIBLE);
        DUE.due("9: wrong grams first", x.mix(0), TeaBlends.BAD_VALUE);
        DUE.due("9: all grams", x.count(2), 54);
    }

    private static void mixingWithTooLittle() {
        TeaBlends x = new TeaBlends();
        x.leaf(10, MILD, 9);
        x.leaf(20, MILD, 9999);
        x.share(0, 1);
        x.share(1, 19);
        DUE.due("9: 181 / 20 up is above 9", x.mix(181), TeaBlends.NOT_POSSIBLE);
        DUE.due("9: nothing is taken", x.of(1, 4), 9999);
        DUE.due("9: the price of the day", x.mix(180), 19);
        DUE.due("9: all is taken", x.of(0, 4), 0);
        DUE.due("9: 180 * 19 / 20", x.of(1, 4), 9828);
        DUE.due("9: a stock of 0", x.mix(1), TeaBlends.NOT_POSSIBLE);
        x.share(0, 0);
        x.share(1, 20);
        DUE.due("9: a stock of 0 without share", x.mix(1), 20);
        x.bound(0, 50, 100);
        DUE.due("9: kept today alone", x.mix(1), 20);
        x.pass(1);
        DUE.due("9: and no more tomorrow", x.mix(1), TeaBlends.NOT_POSSIBLE);
    }

    private static void passing() {
        TeaBlends x = new TeaBlends();
        DUE.due("10: pass(0)", x.pass(0), TeaBlends.BAD_VALUE);
        DUE.due("10: pass(100)", x.pass(100), TeaBlends.BAD_VALUE);
        DUE.due("10: pass(-1)", x.pass(-1), TeaBlends.BAD_VALUE);
        DUE.due("10: pass(2^31 - 1)", x.pass(Integer.MAX_VALUE), TeaBlends.BAD_VALUE);
        x.leaf(1, MILD, 0);
        DUE.due("10: pass(1)", x.pass(1), 1);
        x.leaf(1, MILD, 9);
        DUE.due("10: pass(98)", x.pass(98), 99);
        DUE.due("10: the age of the first", x.of(0, 5), 99);
        DUE.due("10: the age of the second", x.of(1, 5), 98);
        for (int day = 198; day <= 9999; day += 99) {
            DUE.due("10: pass(99)", x.pass(99), day);
        }
        DUE.due("10: the day 10000", x.pass(1), TeaBlends.NOT_POSSIBLE);
        DUE.due("10: wrong days first", x.pass(100), TeaBlends.BAD_VALUE);
        DUE.due("10: the day stays", x.count(0), 9999);
        DUE.due("10: the age stays", x.of(0, 5), 9999);
        DUE.due("10: nothing is left of a taste", x.of(0, 1), 0);
        x.undo();
        DUE.due("10: up to 9999 days", x.pass(98), 9998);
        DUE.due("10: the last day", x.pass(1), 9999);
    }
}
