/** The promises 11 to 21: what there is, and what if. */
public final class AnswersTest {
    private static final int MILD = Due.tastes(50, 50, 50);
    private static final Due DUE = new Due();

    public static void main(String[] args) {
        aboutLeaves();
        aboutTheBlend();
        reasons();
        counts();
        tastesAsBits();
        meanAsBits();
        cheapestBlends();
        cheapestOfSeveral();
        cheapestAtTheBounds();
        swaps();
        swapsOfBrokenBlends();
        looserBounds();
        days();
        grams();
        fiveLeaves();
        DUE.end();
    }

    private static void aboutLeaves() {
        TeaBlends x = new TeaBlends();
        x.leaf(7, Due.tastes(99, 50, 1), 12);
        x.leaf(8, Due.tastes(10, 20, 30), 13);
        x.share(1, 6);
        x.row(1, Due.row(0, 0, -5));
        x.pass(2);
        int[] first = {7, 97, 49, 0, 12, 2, 0};
        int[] second = {3, 9, 19, 29, 13, 2, 6};
        for (int what = 0; what < 7; what++) {
            DUE.due("11: of(0, " + what + ")", x.of(0, what), first[what]);
            DUE.due("11: of(1, " + what + ")", x.of(1, what), second[what]);
        }
        DUE.due("11: of(0, 7)", x.of(0, 7), TeaBlends.BAD_VALUE);
        DUE.due("11: of(0, -1)", x.of(0, -1), TeaBlends.BAD_VALUE);
        DUE.due("11: of(2, 7)", x.of(2, 7), TeaBlends.NO_SUCH);
        DUE.due("11: of(-1, 0)", x.of(-1, 0), TeaBlends.NO_SUCH);
        DUE.due("11: of(2^31 - 1, 0)", x.of(Integer.MAX_VALUE, 0), TeaBlends.NO_SUCH);
        x.pass(97);
        DUE.due("11: 99 * 10 / 1000", x.of(0, 1), 0);
        x.pass(1);
        x.pass(50);
        DUE.due("11: at least 0", x.of(0, 1), 0);
    }

    private static void aboutTheBlend() {
        TeaBlends x = new TeaBlends();
        x.leaf(10, Due.tastes(100, 7, 0), 12);
        x.leaf(999, Due.tastes(1, 0, 100), 0);
        x.leaf(5, MILD, 0);
        x.share(0, 3);
        x.share(2, 4);
        int[] before = {2, 25, 11, 10, 7, 5};
        for (int what = 0; what <= 5; what++) {
            DUE.due("12: not whole, blend(" + what + ")", x.blend(what), before[what]);
        }
        x.share(1, 13);
        x.share(2, 0);
        int[] then = {650, 15, 1, 65, 16, 3};
        for (int what = 0; what <= 5; what++) {
            DUE.due("12: blend(" + what + ")", x.blend(what), then[what]);
        }
        x.share(1, 6);
        x.row(0, Due.row(-1));
        x.share(2, 5);
        DUE.due("12: (3 * 9 + 6 * 999 + 5 * 5) / 20", x.blend(0), 302);
        x.share(2, 0);
        x.row(0, Due.row(-5));
        x.share(1, 0);
        x.share(2, 1);
        DUE.due("12: (3 * 5 + 5) / 20", x.blend(0), 1);
        x.row(2, Due.row(-1));
        DUE.due("12: (3 * 5 + 4) / 20", x.blend(0), 0);
        x.share(2, 0);
        x.share(1, 13);
        x.row(0, Due.row(0, 9));
        x.pass(1);
        DUE.due("12: (3 * 19 + 13 * 999) / 20", x.blend(0), 652);
        DUE.due("12: (3 * 99 + 13 * 0) / 20", x.blend(1), 14);
        x.share(1, 1);
        DUE.due("12: a leaf with one share", x.blend(5), 3);
        DUE.due("12: blend(6)", x.blend(6), TeaBlends.BAD_VALUE);
        DUE.due("12: blend(-1)", x.blend(-1), TeaBlends.BAD_VALUE);
    }

    private static void reasons() {
        TeaBlends x = Due.shopOf(Due.tastes(30, 40, 50), 1);
        x.share(0, 19);
        for (int taste = 0; taste < 3; taste++) {
            x.bound(taste, 100, 100);
        }
        DUE.due("13: not whole first", x.why(), 1);
        x.share(0, 20);
        DUE.due("13: strength below", x.why(), 2);
        x.bound(0, 30, 30);
        DUE.due("13: colour below", x.why(), 3);
        x.bound(1, 40, 40);
        DUE.due("13: scent below", x.why(), 4);
        x.bound(0, 0, 29);
        x.bound(1, 0, 39);
        DUE.due("13: below ahead of above", x.why(), 4);
        x.bound(2, 0, 49);
        DUE.due("13: strength above", x.why(), 5);
        x.bound(0, 0, 30);
        DUE.due("13: colour above", x.why(), 6);
        x.bound(1, 0, 40);
        DUE.due("13: scent above", x.why(), 7);
        x.bound(2, 50, 50);
        DUE.due("13: all kept", x.why(), 0);
        x.pass(1);
        DUE.due("13: scent fades", x.why(), 4);
        x = Due.shopOf(Due.tastes(0, 0, 0), 1, 2);
        x.leaf(3, Due.tastes(19, 0, 0), 1);
        x.share(0, 19);
        x.share(2, 1);
        x.bound(0, 0, 0);
        DUE.due("13: 19 / 20 is not above 0", x.why(), 0);
    }

    private static void counts() {
        TeaBlends x = Due.shopOf(MILD, 250);
        x.share(0, 20);
        x.mix(11);
        x.mix(10);
        x.pass(9);
        x.bound(0, 1, 91);
        x.bound(1, 2, 92);
        x.bound(2, 3, 93);
        x.set(TeaBlends.FADE, 4);
        x.set(TeaBlends.WEEK, 5);
        x.put(Due.characters("abc"));
        int[] counts = {9, 1, 21, 52, 1, 2, 3, 91, 92, 93, 4, 5, 3, 6};
        for (int what = 0; what < counts.length; what++) {
            DUE.due("14: count(" + what + ")", x.count(what), counts[what]);
        }
        DUE.due("14: count(14)", x.count(14), TeaBlends.BAD_VALUE);
        DUE.due("14: count(-1)", x.count(-1), TeaBlends.BAD_VALUE);
        DUE.due("14: count(2^31 - 1)", x.count(Integer.MAX_VALUE), TeaBlends.BAD_VALUE);
    }

    private static void tastesAsBits() {
        TeaBlends x = Due.shopOf(Due.tastes(100, 1, 0), 1);
        for (int share = 0; share <= 20; share++) {
            x.share(0, share);
            DUE.due("15: strength", x.taste(0), Double.doubleToLongBits(100.0 * share / 20));
            DUE.due("15: colour", x.taste(1), Double.doubleToLongBits(share / 20.0));
            DUE.due("15: scent", x.taste(2), 0);
        }
        DUE.due("15: 100.0", x.taste(0), 0x4059000000000000L);
        DUE.due("15: taste(3)", x.taste(3), 0);
        DUE.due("15: taste(-1)", x.taste(-1), 0);
        for (int taste = 1; taste <= 100; taste++) {
            x = Due.shopOf(Due.tastes(taste, taste, 100 - taste), 1);
            x.share(0, 20);
            DUE.due("15: 20 * " + taste + " / 20", x.taste(0), Double.doubleToLongBits(taste));
            x.share(0, 7);
            DUE.due("15: 7 * " + taste, x.taste(1), Double.doubleToLongBits(7 * taste / 20.0));
            DUE.due("15: 7 * (100 - " + taste + ")", x.taste(2), Double.doubleToLongBits(7 * (100 - taste) / 20.0));
        }
        x = Due.shopOf(MILD, 1);
        x.share(0, 3);
        x.pass(1);
        DUE.due("15: 3 * 49 / 20", x.taste(0), Double.doubleToLongBits(147 / 20.0));
    }

    private static void meanAsBits() {
        TeaBlends x = new TeaBlends();
        x.leaf(7, MILD, 9999);
        DUE.due("16: nothing mixed", x.mean(), 0);
        x.share(0, 20);
        x.mix(14);
        DUE.due("16: 0 coins", x.mean(), 0);
        int coins = 0;
        int grams = 14;
        for (int more = 15; more < 60; more++) {
            x.mix(more);
            coins += more * 7 / 100;
            grams += more;
            DUE.due("16: " + coins + " / " + grams, x.mean(), Float.floatToIntBits((float) coins / (float) grams));
        }
        x = new TeaBlends();
        x.leaf(999, MILD, 9999);
        x.row(0, Due.row(9));
        x.share(0, 20);
        coins = 0;
        grams = 0;
        for (int i = 0; i < 200; i++) {
            int more = 9999 - i % 3;
            x.mix(more);
            x.buy(0, more);
            coins += more * 1008 / 100;
            grams += more;
            DUE.due("16: " + coins + " / " + grams, x.mean(), Float.floatToIntBits((float) coins / (float) grams));
        }
        DUE.due("16: more coins than a float holds", coins > 1 << 24 ? 1 : 0, 1);
    }

    private static void cheapestBlends() {
        TeaBlends x = new TeaBlends();
        DUE.due("17: no leaf", x.cheapest(0), TeaBlends.NONE);
        DUE.due("17: cheapest(6)", x.cheapest(6), TeaBlends.BAD_VALUE);
        DUE.due("17: cheapest(-1)", x.cheapest(-1), TeaBlends.BAD_VALUE);
        x.leaf(30, Due.tastes(80, 40, 10), 0);
        x.leaf(11, Due.tastes(20, 60, 10), 0);
        DUE.due("17: the cheaper leaf alone", x.cheapest(0), 11);
        DUE.due("17: nothing of the leaf 0", x.cheapest(1), 0);
        DUE.due("17: all of the leaf 1", x.cheapest(2), 20);
        DUE.due("17: no leaf 4", x.cheapest(5), 0);
        x.bound(0, 21, 100);
        DUE.due("17: 20 + 60 / 20 * 1", x.cheapest(1), 1);
        DUE.due("17: (30 + 19 * 11) / 20", x.cheapest(0), 11);
        x.bound(1, 0, 50);
        DUE.due("17: (20 * 60 - 20 * n) / 20 below 51", x.cheapest(1), 10);
        x.bound(1, 0, 49);
        DUE.due("17: the same, below 50", x.cheapest(1), 11);
        x.bound(0, 0, 20);
        DUE.due("17: both bounds", x.cheapest(1), TeaBlends.NONE);
        DUE.due("17: a wrong number first", x.cheapest(6), TeaBlends.BAD_VALUE);
        x.bound(0, 0, 100);
        x.bound(1, 0, 100);
        x.row(0, Due.row(0, -9));
        x.row(1, Due.row(0, 9));
        x.bound(0, 50, 100);
        DUE.due("17: today", x.cheapest(1), 10);
        DUE.due("17: today's price", x.cheapest(0), 20);
        x.set(TeaBlends.FADE, 0);
        x.pass(1);
        DUE.due("17: tomorrow", x.cheapest(1), 10);
        DUE.due("17: (10 * 21 + 10 * 20) / 20", x.cheapest(0), 20);
        x.row(0, Due.row(0, -9, 9));
        x.row(1, Due.row(0, -9, 0));
        DUE.due("17: (10 * 21 + 10 * 2) / 20", x.cheapest(0), 11);
        DUE.due("17: nothing changes", x.blend(4), 0);
    }

    private static void cheapestOfSeveral() {
        TeaBlends x = Due.shopOf(MILD, 9, 4, 4, 4);
        DUE.due("17: of several, the leaf 0", x.cheapest(1), 0);
        DUE.due("17: of several, the leaf 1", x.cheapest(2), 20);
        DUE.due("17: of several, the leaf 2", x.cheapest(3), 0);
        x = new TeaBlends();
        x.leaf(4, Due.tastes(0, 0, 0), 0);
        x.leaf(4, Due.tastes(100, 0, 0), 0);
        x.leaf(4, Due.tastes(50, 0, 0), 0);
        x.bound(0, 42, 44);
        DUE.due("17: sums of 840 to 899 are 850", x.cheapest(1), 11);
        DUE.due("17: the greatest of the leaf 1 then", x.cheapest(2), 8);
        DUE.due("17: the rest", x.cheapest(3), 1);
        x = new TeaBlends();
        x.leaf(1, Due.tastes(0, 0, 0), 0);
        x.leaf(1, Due.tastes(0, 0, 0), 0);
        x.leaf(20, Due.tastes(100, 0, 0), 0);
        x.leaf(20, Due.tastes(100, 100, 0), 0);
        x.leaf(21, Due.tastes(100, 100, 100), 0);
        x.bound(0, 25, 100);
        x.bound(1, 15, 100);
        x.bound(2, 10, 100);
        int[] due = {5, 15, 0, 2, 1, 2};
        for (int what = 0; what <= 5; what++) {
            DUE.due("17: five leaves, cheapest(" + what + ")", x.cheapest(what), due[what]);
        }
    }

    private static void cheapestAtTheBounds() {
        TeaBlends x = new TeaBlends();
        x.leaf(9, Due.tastes(20, 0, 0), 0);
        x.leaf(8, Due.tastes(40, 0, 39), 0);
        x.leaf(9, Due.tastes(0, 0, 0), 0);
        x.bound(2, 0, 0);
        DUE.due("17: 39 / 20 is above 0", x.cheapest(2), 0);
        x.bound(2, 0, 1);
        DUE.due("17: 39 / 20 is not above 1", x.cheapest(2), 1);
        DUE.due("17: the leaf 0", x.cheapest(1), 19);
        x.bound(2, 0, 100);
        x.bound(0, 29, 30);
        DUE.due("17: 20 * 20 + 20 * 10 = 30 * 20, and 19", x.cheapest(2), 15);
        DUE.due("17: the leaf 2 then", x.cheapest(3), 5);
        x = Due.shopOf(MILD, 9, 8, 7);
        DUE.due("17: all of the leaf 2", x.cheapest(3), 20);
        x.undo();
        DUE.due("17: no leaf 2 any more", x.cheapest(3), 0);
        DUE.due("17: all of the leaf 1 now", x.cheapest(2), 20);
    }

    private static void swaps() {
        TeaBlends x = Due.shopOf(MILD, 30, 10, 30, 10);
        x.share(0, 5);
        x.share(2, 14);
        DUE.due("18: not whole", x.swap(0), TeaBlends.NONE);
        x.share(1, 1);
        DUE.due("18: from", x.swap(0), 0);
        DUE.due("18: to", x.swap(1), 1);
        DUE.due("18: by how much", x.swap(2), 20);
        x.share(0, 0);
        x.share(2, 19);
        DUE.due("18: from one with a share", x.swap(0), 2);
        DUE.due("18: to the lowest", x.swap(1), 1);
        x.share(2, 0);
        x.share(1, 20);
        DUE.due("18: not cheaper", x.swap(2), TeaBlends.NONE);
        DUE.due("18: swap(3)", x.swap(3), TeaBlends.BAD_VALUE);
        DUE.due("18: swap(-1)", x.swap(-1), TeaBlends.BAD_VALUE);
        x.row(3, Due.row(-1));
        DUE.due("18: the prices of the day", x.swap(2), 1);
        DUE.due("18: all of a leaf", x.swap(1), 3);
        DUE.due("18: nothing changes", x.of(1, 6), 20);
    }

    private static void swapsOfBrokenBlends() {
        TeaBlends x = new TeaBlends();
        x.leaf(50, Due.tastes(100, 0, 0), 0);
        x.leaf(20, Due.tastes(0, 100, 0), 0);
        x.leaf(10, Due.tastes(0, 0, 100), 0);
        x.share(0, 20);
        x.bound(2, 0, 4);
        DUE.due("18: the scent may not be 5", x.swap(1), 1);
        x.bound(0, 96, 100);
        DUE.due("18: the strength has to be 96", x.swap(0), TeaBlends.NONE);
        x.bound(0, 95, 95);
        DUE.due("18: broken before, kept then", x.swap(2), 30);
        x.bound(0, 0, 94);
        DUE.due("18: broken then", x.swap(2), TeaBlends.NONE);
        x.bound(0, 0, 100);
        x.bound(2, 5, 100);
        DUE.due("18: a scent of 5", x.swap(1), 2);
        DUE.due("18: 50 - 10", x.swap(2), 40);
        x.bound(2, 0, 100);
        x.bound(0, 93, 100);
        x.pass(1);
        DUE.due("18: (19 * 99 + 0) / 20 today", x.swap(2), 40);
        x.bound(0, 94, 100);
        DUE.due("18: (20 * 99 - 98) / 20 it is not", x.swap(2), 40);
        x.bound(0, 95, 100);
        DUE.due("18: 95 today it is not", x.swap(2), TeaBlends.NONE);
        x = new TeaBlends();
        x.set(TeaBlends.FADE, 50);
        x.leaf(50, Due.tastes(100, 0, 0), 0);
        x.leaf(20, Due.tastes(19, 0, 0), 0);
        x.share(0, 20);
        x.bound(0, 95, 100);
        DUE.due("18: (19 * 100 + 19) / 20", x.swap(2), 30);
        x.bound(0, 96, 100);
        DUE.due("18: it is not 96", x.swap(2), TeaBlends.NONE);
    }

    private static void looserBounds() {
        TeaBlends x = new TeaBlends();
        DUE.due("19: no leaf", x.looser(0), TeaBlends.NONE);
        DUE.due("19: looser(6)", x.looser(6), TeaBlends.BAD_VALUE);
        DUE.due("19: looser(-1)", x.looser(-1), TeaBlends.BAD_VALUE);
        x.leaf(60, Due.tastes(100, 0, 40), 0);
        x.leaf(10, Due.tastes(0, 100, 40), 0);
        x.bound(0, 36, 100);
        DUE.due("19: 8 shares to 7", x.looser(0), 50);
        x.bound(0, 37, 100);
        DUE.due("19: 8 shares still", x.looser(0), 0);
        x.bound(0, 1, 100);
        DUE.due("19: 1 share to 0", x.looser(0), 50);
        x.bound(0, 0, 100);
        x.bound(1, 0, 64);
        DUE.due("19: 8 shares to 7 by the high bound", x.looser(4), 50);
        DUE.due("19: the low bound of 0", x.looser(1), 0);
        DUE.due("19: the high bound of 100", x.looser(3), 0);
        x.bound(0, 100, 100);
        x.bound(1, 0, 0);
        DUE.due("19: one of two bounds", x.looser(0), 0);
        x.bound(1, 0, 100);
        x.leaf(10, Due.tastes(80, 0, 40), 0);
        DUE.due("19: the low bound of 100", x.looser(0), 50);
        x.undo();
        x.bound(0, 0, 100);
        x.bound(1, 0, 0);
        DUE.due("19: the high bound of 0", x.looser(4), 0);
        x.bound(2, 41, 100);
        DUE.due("19: none as they are", x.looser(2), TeaBlends.NONE);
        DUE.due("19: none, and 100", x.looser(3), TeaBlends.NONE);
        DUE.due("19: a wrong number first", x.looser(6), TeaBlends.BAD_VALUE);
        DUE.due("19: the bounds stay", x.count(6), 41);
        x = new TeaBlends();
        x.leaf(60, Due.tastes(0, 0, 0), 0);
        x.leaf(11, Due.tastes(0, 0, 20), 0);
        x.bound(2, 0, 0);
        DUE.due("19: a high bound of 0", x.looser(5), 49);
        DUE.due("19: a low scent", x.looser(2), 0);
    }

    private static void days() {
        TeaBlends x = Due.shopOf(Due.tastes(100, 50, 0), 1);
        DUE.due("20: not whole", x.keepsFor(), 0);
        x.share(0, 20);
        DUE.due("20: no bounds", x.keepsFor(), TeaBlends.NONE);
        x.bound(0, 90, 100);
        DUE.due("20: 100 * 890 / 1000", x.keepsFor(), 11);
        x.bound(1, 49, 100);
        DUE.due("20: 50 * 970 / 1000", x.keepsFor(), 3);
        x.pass(1);
        DUE.due("20: a day later", x.keepsFor(), 2);
        x.pass(2);
        DUE.due("20: now", x.keepsFor(), 0);
        x.bound(1, 0, 100);
        x.bound(0, 0, 96);
        DUE.due("20: above now", x.keepsFor(), 0);
        x.undo();
        x.bound(0, 1, 100);
        x.set(TeaBlends.FADE, 1);
        DUE.due("20: longer than 400 days", x.keepsFor(), TeaBlends.NONE);
        x = Due.shopOf(Due.tastes(100, 50, 0), 1);
        x.share(0, 20);
        x.set(TeaBlends.FADE, 1);
        x.bound(0, 61, 100);
        DUE.due("20: 100 * 609 / 1000", x.keepsFor(), 391);
        x.bound(0, 60, 100);
        DUE.due("20: 60 in 400 days", x.keepsFor(), TeaBlends.NONE);
        x.bound(0, 0, 100);
        x.bound(1, 31, 100);
        DUE.due("20: 50 * 619 / 1000", x.keepsFor(), 381);
        x.leaf(1, Due.tastes(100, 1, 0), 1);
        x.bound(1, 0, 100);
        x.bound(0, 61, 100);
        x.pass(9);
        x.share(0, 0);
        x.share(1, 20);
        DUE.due("20: 9 days fewer", x.keepsFor(), 382);
        edgeOfFourHundredDays();
    }

    private static void edgeOfFourHundredDays() {
        TeaBlends x = Due.shopOf(Due.tastes(100, 100, 100), 1, 1);
        x.set(TeaBlends.FADE, 1);
        x.pass(1);
        x.buy(0, 8999);
        x.share(0, 20);
        DUE.due("20: fresh", x.of(0, 5), 0);
        x.bound(2, 60, 100);
        DUE.due("20: 60 in 400 days", x.keepsFor(), TeaBlends.NONE);
        x.share(0, 19);
        x.share(1, 1);
        DUE.due("20: (19 * 60 + 59) / 20 in 400 days", x.keepsFor(), 400);
    }

    private static void grams() {
        TeaBlends x = new TeaBlends();
        x.leaf(1, MILD, 100);
        x.leaf(1, MILD, 7);
        x.leaf(1, MILD, 0);
        x.share(0, 14);
        DUE.due("21: not whole", x.mostGrams(), 0);
        x.share(1, 6);
        DUE.due("21: 7 * 20 / 6", x.mostGrams(), 23);
        DUE.due("21: mix(24)", x.mix(24), TeaBlends.NOT_POSSIBLE);
        DUE.due("21: mix(23)", x.mix(23), 1);
        DUE.due("21: nothing is left", x.mostGrams(), 0);
        x.share(1, 0);
        x.share(0, 20);
        DUE.due("21: 100 less 17", x.mostGrams(), 83);
        x.bound(0, 51, 100);
        DUE.due("21: broken", x.mostGrams(), 0);
        x.bound(0, 50, 100);
        DUE.due("21: kept today alone", x.mostGrams(), 83);
        x.bound(0, 0, 100);
        x.share(0, 19);
        x.share(2, 1);
        DUE.due("21: a share of 1", x.mostGrams(), 0);
        x.share(2, 0);
        x.bound(0, 0, 100);
        x.share(0, 10);
        x.share(1, 10);
        x.buy(0, 9000);
        x.buy(1, 9000);
        DUE.due("21: at most 9999", x.mostGrams(), 9999);
    }

    private static void fiveLeaves() {
        TeaBlends x = Due.shopOf(MILD, 10, 20, 30, 40, 50);
        x.share(4, 1);
        x.share(3, 2);
        x.share(2, 3);
        x.share(1, 4);
        DUE.due("12: five leaves, all shares", x.share(0, 10), 20);
        DUE.due("12: five leaves, the price", x.blend(0), 20);
        DUE.due("12: five leaves, a taste", x.blend(3), 50);
        DUE.due("12: five leaves, the set", x.blend(5), 31);
        DUE.due("13: five leaves", x.why(), 0);
        DUE.due("15: five leaves", x.taste(0), Double.doubleToLongBits(50.0));
        DUE.due("17: five leaves", x.cheapest(5), 0);
        DUE.due("18: five leaves, from", x.swap(0), 4);
        DUE.due("18: five leaves, to", x.swap(1), 0);
        DUE.due("18: five leaves, by how much", x.swap(2), 40);
        DUE.due("19: five leaves", x.looser(0), 0);
        DUE.due("20: five leaves", x.keepsFor(), TeaBlends.NONE);
        DUE.due("21: five leaves", x.mostGrams(), 2000);
        DUE.due("9: five leaves", x.mix(41), 20);
        int[] left = {979, 991, 993, 995, 997};
        for (int leaf = 0; leaf < 5; leaf++) {
            DUE.due("9: of(" + leaf + ", 4)", x.of(leaf, 4), left[leaf]);
        }
        DUE.due("10: five leaves", x.pass(1), 1);
        DUE.due("10: the fifth is older", x.of(4, 5), 1);
        DUE.due("8: five leaves", x.choose(), 10);
        DUE.due("8: nothing of the fifth", x.of(4, 6), 0);
    }
}
