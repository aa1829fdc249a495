/** Boundary cases of the document's section "Terms", sentence by sentence, but for the texts. */
public final class EdgesOfTermsTest {
    private static final int MILD = Due.tastes(50, 50, 50);
    private static final int FULL = Due.tastes(100, 100, 100);
    private static final Due DUE = new Due();
    private static final Twins TWINS = new Twins(DUE);

    public static void main(String[] args) {
        lastCall();
        numberedFromNought();
        firstErrorOfLeaf();
        firstErrorOfRowAndBuy();
        firstErrorOfBoundAndShare();
        firstErrorOfMixAndPass();
        firstErrorOfTheOthers();
        noneOnlyWithoutError();
        tastesRoundedDown();
        blendsRoundedDown();
        agesAndCoinsRoundedDown();
        sets();
        fade();
        week();
        upToFiveLeaves();
        priceOfALeaf();
        rowOfALeaf();
        tastesOfALeaf();
        stockOfALeaf();
        ageOfALeaf();
        priceAtLeastNought();
        placesOfTheWeek();
        fadedAtLeastNought();
        shareOfALeaf();
        sharesTogether();
        wholeAtTwenty();
        priceOfABlend();
        boundsAtFirst();
        withinBounds();
        DUE.end();
    }

    private static void lastCall() {
        DUE.by("An object is used for at most 512 calls after it has been made");
        TeaBlends x = Due.shopOf(MILD, 1);
        for (int day = 1; day <= 510; day++) {
            DUE.due("pass(1)", x.pass(1), day);
        }
        DUE.due("the 512th call", x.undo(), 5);
        x = new TeaBlends();
        for (int i = 0; i < 511; i++) {
            DUE.due("set(WEEK, ..)", x.set(TeaBlends.WEEK, 1 + i % 7), i == 0 ? 7 : 1 + (i - 1) % 7);
        }
        DUE.due("the 512th call", x.count(11), 1 + 510 % 7);
        x = Due.shopOf(MILD, 9, 8, 7, 6, 5);
        for (int i = 0; i < 506; i++) {
            DUE.due("choose()", x.choose(), 5);
        }
        DUE.due("the 512th call", x.of(4, 6), 20);
    }

    private static void numberedFromNought() {
        DUE.by("Everything is numbered from 0.");
        TeaBlends x = new TeaBlends();
        DUE.due("the first leaf", x.leaf(1, MILD, 1), 0);
        DUE.due("the leaf 0", x.share(0, 20), 20);
        TWINS.unchangedAnywhere("share(-1, 1)", y -> y.share(-1, 1), TeaBlends.NO_SUCH);
        DUE.due("the taste 0", x.bound(0, 1, 99), 100);
        TWINS.unchangedAnywhere("bound(-1, 1, 99)", y -> y.bound(-1, 1, 99), TeaBlends.NO_SUCH);
        DUE.due("the setting 0", x.set(0, 5), 10);
        TWINS.unchangedAnywhere("set(-1, 5)", y -> y.set(-1, 5), TeaBlends.BAD_VALUE);
        DUE.due("the slot 0", x.save(0), 1);
        TWINS.unchangedAnywhere("save(-1)", y -> y.save(-1), TeaBlends.BAD_VALUE);
    }

    private static void firstErrorOfLeaf() {
        DUE.by("the first one that applies is returned");
        TWINS.unchanged(Twins::full, "TOO_MANY alone", x -> x.leaf(1, MILD, 1), TeaBlends.TOO_MANY);
        TWINS.unchanged(Twins::full, "a wrong price and TOO_MANY", x -> x.leaf(1000, MILD, 1), TeaBlends.BAD_VALUE);
        TWINS.unchanged(Twins::full, "a wrong taste and TOO_MANY", x -> x.leaf(1, 101, 1), TeaBlends.BAD_VALUE);
        TWINS.unchanged(Twins::full, "a wrong stock and TOO_MANY", x -> x.leaf(1, MILD, -1), TeaBlends.BAD_VALUE);
    }

    private static void firstErrorOfRowAndBuy() {
        DUE.by("the first one that applies is returned");
        TWINS.unchangedAnywhere("row(5, -1)", x -> x.row(5, -1L), TeaBlends.NO_SUCH);
        TWINS.unchanged(Twins::busy, "row(2, -1)", x -> x.row(2, -1L), TeaBlends.BAD_VALUE);
        TWINS.unchangedAnywhere("buy(5, 0)", x -> x.buy(5, 0), TeaBlends.NO_SUCH);
        TWINS.unchangedAnywhere("buy(5, 10000)", x -> x.buy(5, 10000), TeaBlends.NO_SUCH);
        TWINS.unchanged(Twins::full, "buy(4, 10000)", x -> x.buy(4, 10000), TeaBlends.BAD_VALUE);
        TWINS.unchanged(Twins::full, "buy(4, 0)", x -> x.buy(4, 0), TeaBlends.BAD_VALUE);
        TWINS.unchanged(Twins::full, "buy(4, 1)", x -> x.buy(4, 1), TeaBlends.NOT_POSSIBLE);
    }

    private static void firstErrorOfBoundAndShare() {
        DUE.by("the first one that applies is returned");
        TWINS.unchangedAnywhere("bound(3, -1, 101)", x -> x.bound(3, -1, 101), TeaBlends.NO_SUCH);
        TWINS.unchangedAnywhere("bound(2, -1, 101)", x -> x.bound(2, -1, 101), TeaBlends.BAD_VALUE);
        TWINS.unchangedAnywhere("share(5, 21)", x -> x.share(5, 21), TeaBlends.NO_SUCH);
        TWINS.unchangedAnywhere("share(5, 20)", x -> x.share(5, 20), TeaBlends.NO_SUCH);
        TWINS.unchanged(Twins::full, "share(4, 21)", x -> x.share(4, 21), TeaBlends.BAD_VALUE);
        TWINS.unchanged(Twins::full, "share(4, 20)", x -> x.share(4, 20), TeaBlends.NOT_POSSIBLE);
    }

    private static void firstErrorOfMixAndPass() {
        DUE.by("the first one that applies is returned");
        TWINS.unchanged(TeaBlends::new, "mix(0)", x -> x.mix(0), TeaBlends.BAD_VALUE);
        TWINS.unchanged(TeaBlends::new, "mix(10000)", x -> x.mix(10000), TeaBlends.BAD_VALUE);
        TWINS.unchanged(TeaBlends::new, "mix(9999)", x -> x.mix(9999), TeaBlends.NOT_POSSIBLE);
        TWINS.unchanged(Twins::busy, "mix(10000), a stock too small", x -> x.mix(10000), TeaBlends.BAD_VALUE);
        TWINS.unchanged(Twins::busy, "mix(9999), a stock too small", x -> x.mix(9999), TeaBlends.NOT_POSSIBLE);
        TWINS.unchanged(EdgesOfTermsTest::lastDay, "pass(0)", x -> x.pass(0), TeaBlends.BAD_VALUE);
        TWINS.unchanged(EdgesOfTermsTest::lastDay, "pass(100)", x -> x.pass(100), TeaBlends.BAD_VALUE);
        TWINS.unchanged(EdgesOfTermsTest::lastDay, "pass(1)", x -> x.pass(1), TeaBlends.NOT_POSSIBLE);
    }

    private static TeaBlends lastDay() {
        TeaBlends x = Due.shopOf(MILD, 1);
        Due.days(x, 9999);
        return x;
    }

    private static void firstErrorOfTheOthers() {
        DUE.by("the first one that applies is returned");
        TWINS.unchangedAnywhere("of(5, 7)", x -> x.of(5, 7), TeaBlends.NO_SUCH);
        TWINS.unchanged(Twins::full, "of(4, 7)", x -> x.of(4, 7), TeaBlends.BAD_VALUE);
        TWINS.unchanged(Twins::full, "put(0)", x -> x.put(0L), TeaBlends.BAD_VALUE);
        TWINS.unchanged(Twins::full, "put(32)", x -> x.put(32L), TeaBlends.BAD_VALUE);
        TWINS.unchanged(Twins::full, "put(33)", x -> x.put(33L), TeaBlends.TOO_MANY);
        TWINS.unchanged(TeaBlends::new, "restore(2)", x -> x.restore(2), TeaBlends.BAD_VALUE);
        TWINS.unchanged(TeaBlends::new, "restore(1)", x -> x.restore(1), TeaBlends.NOT_POSSIBLE);
    }

    private static void noneOnlyWithoutError() {
        DUE.by("NONE (-6) is not an error; it is returned only if no error applies.");
        for (int wrong : new int[] {-1, 6, Integer.MIN_VALUE, Integer.MAX_VALUE}) {
            TWINS.unchanged(TeaBlends::new, "cheapest(" + wrong + ")", x -> x.cheapest(wrong), TeaBlends.BAD_VALUE);
            TWINS.unchanged(TeaBlends::new, "looser(" + wrong + ")", x -> x.looser(wrong), TeaBlends.BAD_VALUE);
            TWINS.unchanged(TeaBlends::new, "swap(" + wrong + ")", x -> x.swap(wrong), TeaBlends.BAD_VALUE);
        }
        TWINS.unchanged(TeaBlends::new, "swap(3)", x -> x.swap(3), TeaBlends.BAD_VALUE);
        for (int right = 0; right <= 5; right++) {
            int what = right;
            TWINS.unchanged(TeaBlends::new, "cheapest(" + what + ")", x -> x.cheapest(what), TeaBlends.NONE);
            TWINS.unchanged(TeaBlends::new, "looser(" + what + ")", x -> x.looser(what), TeaBlends.NONE);
            TWINS.unchanged(TeaBlends::new, "swap(" + what % 3 + ")", x -> x.swap(what % 3), TeaBlends.NONE);
        }
    }

    private static void tastesRoundedDown() {
        DUE.by("Divisions are rounded down.");
        TeaBlends x = new TeaBlends();
        x.leaf(1, Due.tastes(100, 99, 1), 1);
        x.set(TeaBlends.FADE, 1);
        x.pass(1);
        DUE.due("100 * 999 / 1000", x.of(0, 1), 99);
        DUE.due("99 * 999 / 1000", x.of(0, 2), 98);
        DUE.due("1 * 999 / 1000", x.of(0, 3), 0);
        x.pass(9);
        DUE.due("100 * 990 / 1000, nothing left over", x.of(0, 1), 99);
    }

    private static void blendsRoundedDown() {
        DUE.by("Divisions are rounded down.");
        TeaBlends x = new TeaBlends();
        x.leaf(1, Due.tastes(1, 39, 40), 1);
        x.leaf(0, Due.tastes(0, 0, 0), 1);
        x.share(0, 19);
        DUE.due("a price of 19 / 20", x.blend(0), 0);
        DUE.due("a taste of 19 / 20", x.blend(1), 0);
        x.share(0, 20);
        DUE.due("a price of 20 / 20", x.blend(0), 1);
        DUE.due("a taste of 20 / 20", x.blend(1), 1);
        x.share(0, 1);
        DUE.due("a taste of 39 / 20", x.blend(2), 1);
        DUE.due("a taste of 40 / 20", x.blend(3), 2);
    }

    private static void agesAndCoinsRoundedDown() {
        DUE.by("Divisions are rounded down.");
        TeaBlends x = new TeaBlends();
        x.leaf(1, MILD, 1);
        x.pass(1);
        x.buy(0, 1);
        DUE.due("an age of 1 / 2", x.of(0, 5), 0);
        x.pass(3);
        x.buy(0, 1);
        DUE.due("an age of 6 / 3", x.of(0, 5), 2);
        x.buy(0, 297);
        x.share(0, 20);
        x.mix(99);
        DUE.due("coins of 99 / 100", x.count(3), 0);
        x.mix(100);
        DUE.due("coins of 100 / 100", x.count(3), 1);
        x.mix(1);
        DUE.due("of each mixing", x.count(3), 1);
    }

    private static void sets() {
        DUE.by("Sets of leaves are bit masks.");
        TeaBlends x = Due.shopOf(MILD, 1, 2, 3, 4, 5);
        DUE.due("no leaf", x.blend(5), 0);
        for (int leaf = 0; leaf < 5; leaf++) {
            x.share(leaf, 1);
            DUE.due("the leaf " + leaf + " alone", x.blend(5), 1 << leaf);
            x.share(leaf, 0);
        }
        for (int leaf = 0; leaf < 5; leaf++) {
            x.share(leaf, 4);
        }
        DUE.due("all leaves", x.blend(5), 31);
    }

    private static void fade() {
        DUE.by("FADE (0 to 99; 10)");
        TeaBlends x = new TeaBlends();
        DUE.due("the first value", x.count(10), 10);
        DUE.due("0", x.set(TeaBlends.FADE, 0), 10);
        TWINS.unchangedAnywhere("-1", y -> y.set(TeaBlends.FADE, -1), TeaBlends.BAD_VALUE);
        DUE.due("99", x.set(TeaBlends.FADE, 99), 0);
        DUE.due("99 holds", x.count(10), 99);
        TWINS.unchangedAnywhere("100", y -> y.set(TeaBlends.FADE, 100), TeaBlends.BAD_VALUE);
    }

    private static void week() {
        DUE.by("WEEK (1 to 7; 7)");
        TeaBlends x = new TeaBlends();
        DUE.due("the first value", x.count(11), 7);
        DUE.due("1", x.set(TeaBlends.WEEK, 1), 7);
        TWINS.unchangedAnywhere("0", y -> y.set(TeaBlends.WEEK, 0), TeaBlends.BAD_VALUE);
        DUE.due("7", x.set(TeaBlends.WEEK, 7), 1);
        DUE.due("7 holds", x.count(11), 7);
        TWINS.unchangedAnywhere("8", y -> y.set(TeaBlends.WEEK, 8), TeaBlends.BAD_VALUE);
    }

    private static void upToFiveLeaves() {
        DUE.by("There are up to 5 leaves, numbered in the order in which they came");
        TeaBlends x = new TeaBlends();
        for (int leaf = 0; leaf < 5; leaf++) {
            DUE.due("no leaf " + leaf + " yet", x.of(leaf, 0), TeaBlends.NO_SUCH);
            DUE.due("the leaf " + leaf, x.leaf(10 + leaf, MILD, 1), leaf);
            DUE.due("the leaves then", x.count(1), leaf + 1);
        }
        for (int leaf = 0; leaf < 5; leaf++) {
            DUE.due("the price of the leaf " + leaf, x.of(leaf, 0), 10 + leaf);
        }
        TWINS.unchanged(Twins::full, "a sixth leaf", y -> y.leaf(1, MILD, 1), TeaBlends.TOO_MANY);
    }

    private static void priceOfALeaf() {
        DUE.by("a price (0 to 999)");
        TeaBlends x = new TeaBlends();
        DUE.due("0", x.leaf(0, MILD, 1), 0);
        DUE.due("999", x.leaf(999, MILD, 1), 1);
        DUE.due("0 holds", x.of(0, 0), 0);
        DUE.due("999 holds", x.of(1, 0), 999);
        TWINS.unchangedAnywhere("-1", y -> y.leaf(-1, MILD, 1), TeaBlends.BAD_VALUE);
        TWINS.unchangedAnywhere("1000", y -> y.leaf(1000, MILD, 1), TeaBlends.BAD_VALUE);
    }

    private static void rowOfALeaf() {
        DUE.by("a row of 7 changes of the price (-9 to 9 each, 0 at first)");
        TeaBlends x = Due.shopOf(MILD, 500);
        for (int day = 0; day < 7; day++) {
            DUE.due("at first, on the day " + day, x.of(0, 0), 500);
            x.pass(1);
        }
        x.row(0, Due.row(-9, 9, -9, 9, -9, 9, -9));
        for (int day = 7; day < 14; day++) {
            DUE.due("on the day " + day, x.of(0, 0), day % 2 == 1 ? 491 : 509);
            x.pass(1);
        }
        for (int place = 0; place < 7; place++) {
            long tenUp = Due.row() + (10L << 5 * place);
            TWINS.unchanged(Twins::busy, "10 in the place " + place, y -> y.row(1, tenUp), TeaBlends.BAD_VALUE);
            long most = Due.row() | 31L << 5 * place;
            TWINS.unchanged(Twins::busy, "22 in the place " + place, y -> y.row(1, most), TeaBlends.BAD_VALUE);
        }
    }

    private static void tastesOfALeaf() {
        DUE.by("three tastes (0 strength, 1 colour, 2 scent; 0 to 100 each, as they are when it is fresh)");
        TeaBlends x = new TeaBlends();
        x.leaf(1, Due.tastes(0, 0, 0), 1);
        x.leaf(1, FULL, 1);
        x.leaf(1, Due.tastes(100, 0, 1), 1);
        x.leaf(1, Due.tastes(0, 1, 100), 1);
        int[][] due = {{0, 0, 0}, {100, 100, 100}, {100, 0, 1}, {0, 1, 100}};
        for (int leaf = 0; leaf < 4; leaf++) {
            for (int taste = 0; taste < 3; taste++) {
                DUE.due("the taste " + taste + " of the leaf " + leaf, x.of(leaf, 1 + taste), due[leaf][taste]);
            }
        }
        for (int taste = 0; taste < 3; taste++) {
            int tooStrong = 101 << 7 * taste;
            TWINS.unchangedAnywhere("101, taste " + taste, y -> y.leaf(1, tooStrong, 1), TeaBlends.BAD_VALUE);
            int allBits = 127 << 7 * taste;
            TWINS.unchangedAnywhere("127, taste " + taste, y -> y.leaf(1, allBits, 1), TeaBlends.BAD_VALUE);
        }
    }

    private static void stockOfALeaf() {
        DUE.by("a stock in grams (0 to 9999)");
        TeaBlends x = new TeaBlends();
        DUE.due("0", x.leaf(1, MILD, 0), 0);
        DUE.due("9999", x.leaf(1, MILD, 9999), 1);
        DUE.due("0 holds", x.of(0, 4), 0);
        DUE.due("9999 holds", x.of(1, 4), 9999);
        TWINS.unchangedAnywhere("-1", y -> y.leaf(1, MILD, -1), TeaBlends.BAD_VALUE);
        TWINS.unchangedAnywhere("10000", y -> y.leaf(1, MILD, 10000), TeaBlends.BAD_VALUE);
    }

    private static void ageOfALeaf() {
        DUE.by("an age in days (0 at first)");
        TeaBlends x = Due.shopOf(MILD, 1);
        DUE.due("on the day 0", x.of(0, 5), 0);
        x.pass(99);
        x.leaf(1, MILD, 1);
        DUE.due("on the day 99", x.of(1, 5), 0);
        DUE.due("that of the day 0 then", x.of(0, 5), 99);
    }

    private static void priceAtLeastNought() {
        DUE.by("The price of a leaf on a day is [..] together, at least 0.");
        int[] prices = {0, 8, 9, 10};
        int[] due = {0, 0, 0, 1};
        TeaBlends x = Due.shopOf(MILD, prices);
        for (int leaf = 0; leaf < prices.length; leaf++) {
            DUE.due(prices[leaf] + " less 9, as row() answers", x.row(leaf, Due.row(-9)), due[leaf]);
            DUE.due(prices[leaf] + " less 9", x.of(leaf, 0), due[leaf]);
            x.share(leaf, 20);
            DUE.due(prices[leaf] + " less 9 in a blend", x.blend(0), due[leaf]);
            x.share(leaf, 0);
        }
        DUE.due("0 less 9 is not cheaper than 8 less 9", x.cheapest(1), 20);
        x = Due.shopOf(MILD, 999);
        DUE.due("999 and 9", x.row(0, Due.row(9)), 1008);
    }

    private static void placesOfTheWeek() {
        DUE.by("the change in the place (the day left over by WEEK)");
        TeaBlends x = Due.shopOf(MILD, 100);
        x.row(0, Due.row(1, 2, 3, 4, 5, 6, 7));
        for (int day = 0; day <= 15; day++) {
            for (int week = 1; week <= 7; week++) {
                x.set(TeaBlends.WEEK, week);
                DUE.due("a week of " + week + ", day " + day, x.of(0, 0), 101 + day % week);
            }
            x.pass(1);
        }
        x = Due.shopOf(MILD, 100);
        x.row(0, Due.row(1, 2, 3, 4, 5, 6, 7));
        Due.days(x, 9999);
        DUE.due("the last day, 9999 = 7 * 1428 + 3", x.of(0, 0), 104);
    }

    private static void fadedAtLeastNought() {
        DUE.by("A taste of a leaf is its fresh taste * (1000 less FADE * its age, at least 0) / 1000.");
        TeaBlends x = Due.shopOf(FULL, 1);
        DUE.due("fresh", x.of(0, 1), 100);
        x.set(TeaBlends.FADE, 99);
        x.pass(10);
        DUE.due("1000 less 990", x.of(0, 1), 1);
        x.pass(1);
        DUE.due("1000 less 1089", x.of(0, 1), 0);
        x.set(TeaBlends.FADE, 1);
        Due.days(x, 979);
        DUE.due("1000 less 990 again", x.of(0, 2), 1);
        x.pass(1);
        DUE.due("1000 less 991", x.of(0, 2), 0);
        x.pass(9);
        DUE.due("1000 less 1000", x.of(0, 3), 0);
        x.pass(10);
        DUE.due("1000 less 1010", x.of(0, 3), 0);
        x.set(TeaBlends.FADE, 99);
        DUE.due("1000 less 99990 and more", x.of(0, 3), 0);
        x.share(0, 20);
        DUE.due("a blend of it", x.blend(3), 0);
        DUE.due("the bits of it", x.taste(2), 0);
        x.set(TeaBlends.FADE, 0);
        DUE.due("never fades", x.of(0, 3), 100);
    }

    private static void shareOfALeaf() {
        DUE.by("The blend gives each leaf a share, 0 to 20");
        TeaBlends x = Due.shopOf(MILD, 1, 2, 3, 4, 5);
        for (int leaf = 0; leaf < 5; leaf++) {
            int which = leaf;
            DUE.due("at first", x.of(leaf, 6), 0);
            DUE.due("20", x.share(leaf, 20), 20);
            DUE.due("20 holds", x.of(leaf, 6), 20);
            DUE.due("0", x.share(leaf, 0), 0);
            DUE.due("0 holds", x.of(leaf, 6), 0);
            TWINS.unchanged(Twins::full, "-1", y -> y.share(which, -1), TeaBlends.BAD_VALUE);
            TWINS.unchanged(Twins::full, "21", y -> y.share(which, 21), TeaBlends.BAD_VALUE);
        }
    }

    private static void sharesTogether() {
        DUE.by("all shares together are at most 20");
        TeaBlends x = Due.shopOf(MILD, 1, 2);
        x.share(0, 19);
        DUE.due("19 and 1", x.share(1, 1), 20);
        TWINS.unchanged(Twins::full, "16 and 5", y -> y.share(4, 5), TeaBlends.NOT_POSSIBLE);
        TWINS.unchanged(Twins::full, "16 and 20", y -> y.share(0, 20), TeaBlends.NOT_POSSIBLE);
        x = Twins.full();
        DUE.due("16 and 4", x.share(4, 4), 20);
    }

    private static void wholeAtTwenty() {
        DUE.by("it is whole if they are 20");
        TeaBlends x = Due.shopOf(MILD, 5, 6);
        DUE.due("0", x.why(), 1);
        x.share(0, 10);
        x.share(1, 9);
        DUE.due("19", x.why(), 1);
        x.share(1, 10);
        DUE.due("20", x.why(), 0);
    }

    private static void priceOfABlend() {
        DUE.by("Its price is the sum of share * price of the day over all leaves, divided by 20");
        TeaBlends x = Due.shopOf(FULL, 0, 999, 999, 999, 999);
        DUE.due("no shares", x.blend(0), 0);
        x.share(0, 20);
        DUE.due("the least", x.blend(0), 0);
        x.share(0, 0);
        x.share(1, 20);
        x.row(1, Due.row(9));
        DUE.due("the most", x.blend(0), 1008);
        DUE.by("each of its tastes the sum of share * taste, divided by 20");
        DUE.due("the most", x.blend(1), 100);
        x.share(1, 0);
        DUE.due("the least", x.blend(1), 0);
    }

    private static void boundsAtFirst() {
        DUE.by("Each taste has a low and a high bound (0 and 100 at first).");
        TeaBlends x = new TeaBlends();
        for (int taste = 0; taste < 3; taste++) {
            DUE.due("the low bound of the taste " + taste, x.count(4 + taste), 0);
            DUE.due("the high bound of the taste " + taste, x.count(7 + taste), 100);
        }
        x.leaf(1, Due.tastes(0, 100, 0), 1);
        x.share(0, 20);
        DUE.due("0 and 100 are within them", x.why(), 0);
    }

    private static void withinBounds() {
        DUE.by("A whole blend keeps its bounds if each of its tastes is within its bounds.");
        for (int taste = 0; taste < 3; taste++) {
            TeaBlends x = Due.shopOf(MILD, 1);
            x.share(0, 20);
            x.bound(taste, 50, 50);
            DUE.due("at both bounds", x.why(), 0);
            DUE.due("and can be mixed", x.mix(1), 1);
            x.bound(taste, 51, 100);
            DUE.due("one below the low bound", x.why(), 2 + taste);
            x.bound(taste, 0, 49);
            DUE.due("one above the high bound", x.why(), 5 + taste);
        }
    }
}
