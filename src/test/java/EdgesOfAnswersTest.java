/** Boundary cases of the promises 11 to 21, sentence by sentence. */
public final class EdgesOfAnswersTest {
    private static final int MILD = Due.tastes(50, 50, 50);
    private static final int[] FAR = {Integer.MIN_VALUE, Integer.MAX_VALUE};
    private static final Due DUE = new Due();
    private static final Twins TWINS = new Twins(DUE);

    public static void main(String[] args) {
        leavesToAskAbout();
        whatOfALeaf();
        whatOfABlend();
        blendsNotWhole();
        reasonsInOrder();
        aBlendThatIsNotWhole();
        whatToCount();
        leastAndMostCounts();
        coinsOfEachMixing();
        suchTastes();
        bitsOfTastes();
        meanOfNothing();
        meansOfLittleAndMuch();
        whatOfTheCheapest();
        sharesOfNoLeaf();
        cheapestWithin();
        cheapestOfSeveral();
        sumsNotDivided();
        whatOfASwap();
        sharesToSwap();
        swapsThatSave();
        swapsWithinBounds();
        lowestLeavesToSwap();
        suchBounds();
        boundsThatCannotBeLooser();
        looserByOne();
        noCheapestToLoosen();
        keptNoMore();
        keptForFourHundredDays();
        keptAroundTheLastDay();
        mostOfTheStocks();
        mostOfABrokenBlend();
        DUE.end();
    }

    private static void leavesToAskAbout() {
        DUE.by("of: NO_SUCH if there is no such leaf");
        TWINS.unchanged(Twins::busy, "the last one of 3", x -> x.of(2, 4), 85);
        TWINS.unchanged(Twins::full, "the last one of 5", x -> x.of(4, 4), 9999);
        for (int wrong : new int[] {3, 4, 5, -1, FAR[0], FAR[1]}) {
            TWINS.unchanged(Twins::busy, "of(" + wrong + ", 0)", x -> x.of(wrong, 0), TeaBlends.NO_SUCH);
        }
        TWINS.unchanged(Twins::full, "of(5, 0)", x -> x.of(5, 0), TeaBlends.NO_SUCH);
        TWINS.unchanged(TeaBlends::new, "of(0, 0)", x -> x.of(0, 0), TeaBlends.NO_SUCH);
        TeaBlends x = Due.shopOf(MILD, 7);
        x.undo();
        DUE.due("a leaf that was undone", x.of(0, 0), TeaBlends.NO_SUCH);
    }

    private static void whatOfALeaf() {
        DUE.by("what: 0 its price of the day, 1 to 3 its tastes now, 4 its stock, 5 its age, 6 its share");
        int[] due = {60 - 9, 40 * 980 / 1000, 30 * 980 / 1000, 20 * 980 / 1000, 700, 2, 6};
        for (int what = 0; what < due.length; what++) {
            int which = what;
            TWINS.unchanged(EdgesOfAnswersTest::oneLeaf, "of(0, " + what + ")", x -> x.of(0, which), due[what]);
        }
        for (int wrong : new int[] {-1, 7, FAR[0], FAR[1]}) {
            TWINS.unchanged(Twins::full, "of(4, " + wrong + ")", x -> x.of(4, wrong), TeaBlends.BAD_VALUE);
        }
    }

    private static TeaBlends oneLeaf() {
        TeaBlends x = new TeaBlends();
        x.leaf(60, Due.tastes(40, 30, 20), 700);
        x.share(0, 6);
        x.row(0, Due.row(0, 0, -9));
        x.pass(2);
        return x;
    }

    private static void whatOfABlend() {
        DUE.by("what: 0 its price, 1 to 3 its tastes, 4 all shares together, 5 leaves in it, as a set");
        int[] due = {6 * 51 / 20, 6 * 39 / 20, 6 * 29 / 20, 6 * 19 / 20, 6, 1};
        for (int what = 0; what < due.length; what++) {
            int which = what;
            TWINS.unchanged(EdgesOfAnswersTest::oneLeaf, "blend(" + what + ")", x -> x.blend(which), due[what]);
        }
        for (int wrong : new int[] {-1, 6, FAR[0], FAR[1]}) {
            TWINS.unchangedAnywhere("blend(" + wrong + ")", x -> x.blend(wrong), TeaBlends.BAD_VALUE);
        }
    }

    private static void blendsNotWhole() {
        DUE.by("Returns something about the blend (shares as they are, whole or not).");
        for (int what = 0; what <= 5; what++) {
            int which = what;
            TWINS.unchanged(TeaBlends::new, "no leaf, blend(" + what + ")", x -> x.blend(which), 0);
            DUE.due("no shares, blend(" + what + ")", Due.shopOf(MILD, 9).blend(what), 0);
        }
        for (int share = 1; share <= 20; share++) {
            TeaBlends x = new TeaBlends();
            x.leaf(999, Due.tastes(100, 7, 1), 0);
            x.share(0, share);
            int[] due = {share * 999 / 20, share * 5, share * 7 / 20, share / 20, share, 1};
            for (int what = 0; what <= 5; what++) {
                DUE.due("a share of " + share + ", blend(" + what + ")", x.blend(what), due[what]);
            }
        }
    }

    /** A whole blend with tastes of 50, each of them below its bounds (-1), at its low one (0), or above them (1). */
    private static TeaBlends placed(int strength, int colour, int scent) {
        TeaBlends x = Due.shopOf(MILD, 3);
        x.share(0, 20);
        int[] places = {strength, colour, scent};
        for (int taste = 0; taste < 3; taste++) {
            x.bound(taste, places[taste] < 0 ? 51 : places[taste] > 0 ? 0 : 50, places[taste] > 0 ? 49 : 51);
        }
        return x;
    }

    private static void reasonsInOrder() {
        DUE.by("2 to 4 the taste 0 to 2 is below its low bound; 5 to 7 it is above its high one (the first of these"
            + " numbers that is so).");
        for (int places = 0; places < 27; places++) {
            int[] p = {places % 3 - 1, places / 3 % 3 - 1, places / 9 - 1};
            int due = 0;
            for (int taste = 2; taste >= 0; taste--) {
                due = p[taste] > 0 ? 5 + taste : due;
            }
            for (int taste = 2; taste >= 0; taste--) {
                due = p[taste] < 0 ? 2 + taste : due;
            }
            TWINS.unchanged(() -> placed(p[0], p[1], p[2]), p[0] + " " + p[1] + " " + p[2], x -> x.why(), due);
            TeaBlends x = placed(p[0], p[1], p[2]);
            x.share(0, 19);
            DUE.due("not whole, " + places, x.why(), 1);
        }
    }

    private static void aBlendThatIsNotWhole() {
        DUE.by("1 it is not whole");
        TWINS.unchanged(TeaBlends::new, "no leaf", x -> x.why(), 1);
        TeaBlends x = Due.shopOf(MILD, 3, 4);
        for (int share = 0; share < 20; share++) {
            x.share(1, share);
            DUE.due(share + " shares", x.why(), 1);
        }
        DUE.due("and one more", x.share(0, 1), 20);
        DUE.due("20 shares", x.why(), 0);
    }

    private static void whatToCount() {
        DUE.by("count: BAD_VALUE if what is out of range.");
        int[] due = {3, 3, 50, 15, 11, 0, 6, 88, 100, 93, 5, 5, 10, 6};
        for (int what = 0; what < due.length; what++) {
            int which = what;
            TWINS.unchanged(Twins::busy, "count(" + what + ")", x -> x.count(which), due[what]);
        }
        for (int wrong : new int[] {-1, 14, FAR[0], FAR[1]}) {
            TWINS.unchangedAnywhere("count(" + wrong + ")", x -> x.count(wrong), TeaBlends.BAD_VALUE);
        }
    }

    private static void leastAndMostCounts() {
        DUE.by("count: Returns a number.");
        int[] least = {0, 0, 0, 0, 0, 0, 0, 100, 100, 100, 10, 7, 0, 0};
        for (int what = 0; what < least.length; what++) {
            DUE.due("of a new shop, count(" + what + ")", new TeaBlends().count(what), least[what]);
        }
        TeaBlends x = Twins.full();
        Due.days(x, 9999);
        DUE.due("the last day", x.count(0), 9999);
        DUE.due("five leaves", x.count(1), 5);
        DUE.due("a full pad", x.count(12), 80);
        DUE.due("a full history", x.count(13), 6);
        for (int taste = 0; taste < 3; taste++) {
            x.bound(taste, 100, 100);
            DUE.due("a low bound of 100", x.count(4 + taste), 100);
            x.bound(taste, 0, 0);
            DUE.due("a high bound of 0", x.count(7 + taste), 0);
        }
    }

    private static void coinsOfEachMixing() {
        DUE.by("3 coins so far: of each mixing grams * price / 100");
        TeaBlends x = whole(1, 9999);
        x.mix(50);
        x.mix(50);
        DUE.due("50 / 100 twice", x.count(3), 0);
        x.mix(100);
        DUE.due("100 / 100", x.count(3), 1);
        x.mix(199);
        DUE.due("199 / 100", x.count(3), 2);
        x = whole(999, 9999);
        x.row(0, Due.row(9));
        x.mix(9999);
        DUE.due("9999 * 1008 / 100", x.count(3), 100789);
        x = whole(0, 9999);
        x.mix(9999);
        DUE.due("9999 * 0 / 100", x.count(3), 0);
        x = Due.shopOf(MILD, 1, 2);
        x.share(0, 1);
        x.share(1, 19);
        x.mix(100);
        DUE.due("100 * (39 / 20) / 100, the price rounded first", x.count(3), 1);
    }

    private static TeaBlends whole(int price, int stock) {
        TeaBlends x = new TeaBlends();
        x.leaf(price, MILD, stock);
        x.share(0, 20);
        return x;
    }

    private static void suchTastes() {
        DUE.by("Returns the bits (of 0.0, if there is no such taste).");
        for (int wrong : new int[] {-1, 3, FAR[0], FAR[1]}) {
            TWINS.unchangedAnywhere("taste(" + wrong + ")", x -> x.taste(wrong), 0L);
        }
        TWINS.unchanged(Twins::full, "taste(0)", x -> x.taste(0), Double.doubleToLongBits(100.0));
        TWINS.unchanged(Twins::full, "taste(2)", x -> x.taste(2), 0L);
        TWINS.unchanged(TeaBlends::new, "no leaf", x -> x.taste(0), 0L);
    }

    private static void bitsOfTastes() {
        DUE.by("the bits, as Double.doubleToLongBits tells them, of the sum of share * taste, as a double, divided by"
            + " 20");
        for (int sum = 0; sum <= 2000; sum++) {
            TeaBlends x = new TeaBlends();
            int taste = sum % 3;
            x.leaf(1, sum / 20 << 7 * taste, 0);
            x.leaf(1, Math.min(sum / 20 + 1, 100) << 7 * taste, 0);
            x.share(0, 20 - sum % 20);
            x.share(1, sum % 20);
            DUE.due("a sum of " + sum, x.taste(taste), Double.doubleToLongBits(sum / 20.0));
            DUE.due("another taste", x.taste((taste + 1) % 3), 0L);
        }
    }

    private static void meanOfNothing() {
        DUE.by("Returns the bits (of 0.0f, if nothing was mixed).");
        TWINS.unchanged(TeaBlends::new, "a new shop", x -> x.mean(), 0);
        TWINS.unchanged(Twins::full, "a full shop", x -> x.mean(), 0);
        TeaBlends x = whole(100, 9);
        x.mix(1);
        DUE.due("1 coin for 1 gram", x.mean(), Float.floatToIntBits(1.0f));
        x.undo();
        DUE.due("undone", x.mean(), 0);
    }

    private static void meansOfLittleAndMuch() {
        DUE.by("the bits, as Float.floatToIntBits tells them, of the coins so far, as a float, divided by the grams so"
            + " far, as a float");
        TeaBlends x = whole(0, 9999);
        x.mix(9999);
        DUE.due("no coins", x.mean(), 0);
        x = whole(1, 9999);
        x.mix(100);
        DUE.due("1 / 100", x.mean(), Float.floatToIntBits(1f / 100f));
        for (int i = 0; i < 99; i++) {
            x.mix(99);
        }
        DUE.due("1 / 9901", x.mean(), Float.floatToIntBits(1f / 9901f));
        x = whole(999, 9999);
        x.row(0, Due.row(9));
        x.mix(9999);
        DUE.due("100789 / 9999", x.mean(), Float.floatToIntBits(100789f / 9999f));
    }

    private static void whatOfTheCheapest() {
        DUE.by("what: 0 its price, 1 to 5 the share of the leaf 0 to 4");
        int[] due = {0, 0, 0, 0, 0, 20};
        for (int what = 0; what < due.length; what++) {
            int which = what;
            TWINS.unchanged(Twins::full, "cheapest(" + what + ")", x -> x.cheapest(which), due[what]);
        }
        for (int wrong : new int[] {-1, 6, FAR[0], FAR[1]}) {
            TWINS.unchangedAnywhere("cheapest(" + wrong + ")", x -> x.cheapest(wrong), TeaBlends.BAD_VALUE);
        }
        TWINS.unchanged(TeaBlends::new, "no leaf", x -> x.cheapest(0), TeaBlends.NONE);
        DUE.due("the highest price", whole(999, 0).cheapest(0), 999);
        DUE.due("the lowest one", whole(0, 0).cheapest(0), 0);
    }

    private static void sharesOfNoLeaf() {
        DUE.by("(0 if there is no such leaf)");
        for (int leaves = 1; leaves <= 5; leaves++) {
            TeaBlends x = new TeaBlends();
            for (int leaf = 0; leaf < leaves; leaf++) {
                x.leaf(9 - leaf, MILD, 0);
            }
            for (int what = 1; what <= 5; what++) {
                DUE.due(leaves + " leaves, cheapest(" + what + ")", x.cheapest(what), what == leaves ? 20 : 0);
            }
        }
        TeaBlends x = new TeaBlends();
        x.leaf(1, Due.tastes(0, 0, 0), 1);
        x.bound(0, 1, 100);
        DUE.due("no blend, a leaf that is not there", x.cheapest(5), TeaBlends.NONE);
        x = Due.shopOf(MILD, 9, 8);
        DUE.due("all of the leaf 1", x.cheapest(2), 20);
        x.undo();
        DUE.due("a leaf that was undone", x.cheapest(2), 0);
    }

    private static void cheapestWithin() {
        DUE.by("Finds the cheapest whole blend that keeps its bounds today");
        for (int taste = 0; taste < 3; taste++) {
            TeaBlends x = new TeaBlends();
            x.leaf(1, 0, 0);
            x.leaf(9, 100 << 7 * taste, 0);
            for (int bound = 0; bound <= 100; bound++) {
                x.bound(taste, bound, 100);
                DUE.due("at least " + bound, x.cheapest(2), (bound + 4) / 5);
            }
            x.row(0, Due.row(9));
            for (int bound = 0; bound <= 100; bound++) {
                x.bound(taste, 0, bound);
                DUE.due("at most " + bound, x.cheapest(2), bound / 5);
            }
            x.bound(taste, 51, 54);
            DUE.due("between 10 and 11 shares", x.cheapest(0), TeaBlends.NONE);
            x.bound(taste, 51, 55);
            DUE.due("just 11 shares", x.cheapest(2), 11);
            x.bound(taste, 50, 54);
            DUE.due("just 10 shares", x.cheapest(2), 10);
        }
    }

    private static void cheapestOfSeveral() {
        DUE.by("of several the one with the greatest share of the leaf 0, of these of the leaf 1, and so on");
        for (int first = 0; first < 5; first++) {
            TeaBlends x = new TeaBlends();
            for (int leaf = 0; leaf < 5; leaf++) {
                x.leaf(leaf < first ? 6 : 5, MILD, 0);
            }
            for (int leaf = 0; leaf < 5; leaf++) {
                DUE.due("alike from the leaf " + first + " on, the leaf " + leaf, x.cheapest(1 + leaf),
                    leaf == first ? 20 : 0);
            }
        }
        TeaBlends x = new TeaBlends();
        x.leaf(5, Due.tastes(100, 0, 0), 0);
        x.leaf(5, Due.tastes(0, 100, 0), 0);
        x.leaf(5, Due.tastes(0, 0, 100), 0);
        x.leaf(5, Due.tastes(0, 0, 0), 0);
        x.leaf(5, Due.tastes(0, 0, 0), 0);
        x.bound(0, 0, 25);
        x.bound(1, 0, 20);
        x.bound(2, 0, 15);
        int[] due = {5, 5, 4, 3, 8, 0};
        for (int what = 0; what <= 5; what++) {
            DUE.due("cheapest(" + what + ")", x.cheapest(what), due[what]);
        }
    }

    private static void sumsNotDivided() {
        DUE.by("by the sum of share * price, not divided");
        TeaBlends x = Due.shopOf(MILD, 6, 5);
        DUE.due("119 / 20 is 5, as 100 / 20", x.cheapest(1), 0);
        DUE.due("a sum of 100", x.cheapest(0), 5);
        x.share(0, 1);
        x.share(1, 19);
        DUE.due("101 / 20 is 5, too", x.blend(0), 5);
        DUE.due("choose() takes the sum of 100", x.choose(), 5);
        DUE.due("nothing of the leaf 0", x.of(0, 6), 0);
    }

    private static void whatOfASwap() {
        DUE.by("what: 0 from which leaf, 1 to which one, 2 by how much the sum is less");
        int[] due = {3, 4, 999};
        for (int what = 0; what < due.length; what++) {
            int which = what;
            TWINS.unchanged(Twins::full, "swap(" + what + ")", x -> x.swap(which), due[what]);
        }
        for (int wrong : new int[] {-1, 3, FAR[0], FAR[1]}) {
            TWINS.unchangedAnywhere("swap(" + wrong + ")", x -> x.swap(wrong), TeaBlends.BAD_VALUE);
        }
    }

    private static void sharesToSwap() {
        DUE.by("Finds the swap of one share from a leaf to another one");
        TWINS.unchanged(TeaBlends::new, "no leaf", x -> x.swap(0), TeaBlends.NONE);
        DUE.due("one leaf alone", whole(9, 0).swap(0), TeaBlends.NONE);
        TeaBlends x = Due.shopOf(MILD, 9, 8);
        DUE.due("no shares", x.swap(2), TeaBlends.NONE);
        x.share(0, 19);
        DUE.due("19 shares", x.swap(2), TeaBlends.NONE);
        x.share(0, 20);
        DUE.due("20 shares, from", x.swap(0), 0);
        DUE.due("20 shares, to", x.swap(1), 1);
        x.share(0, 1);
        DUE.due("1 share", x.swap(2), TeaBlends.NONE);
        x.share(1, 19);
        DUE.due("the last share of a leaf", x.swap(2), 1);
        x.share(0, 0);
        x.share(1, 20);
        DUE.due("no share of it is left", x.swap(2), TeaBlends.NONE);
    }

    private static void swapsThatSave() {
        DUE.by("NONE if no swap makes it cheaper.");
        int[] dearer = {0, 1, 9, 998, 999};
        for (int more : dearer) {
            TeaBlends x = Due.shopOf(MILD, more, 0);
            x.share(0, 20);
            DUE.due(more + " to 0", x.swap(2), more == 0 ? TeaBlends.NONE : more);
            x.share(0, 0);
            x.share(1, 20);
            DUE.due("0 to " + more, x.swap(2), TeaBlends.NONE);
        }
    }

    private static void swapsWithinBounds() {
        DUE.by("by which the blend, whole and with its bounds kept then, becomes cheaper the most");
        for (int taste = 0; taste < 3; taste++) {
            TeaBlends x = new TeaBlends();
            x.leaf(9, 100 << 7 * taste, 0);
            x.leaf(1, 0, 0);
            x.share(0, 11);
            x.share(1, 9);
            x.bound(taste, 50, 100);
            DUE.due("50 then, at least 50", x.swap(2), 8);
            x.bound(taste, 51, 100);
            DUE.due("50 then, at least 51", x.swap(2), TeaBlends.NONE);
            x.bound(taste, 0, 50);
            DUE.due("50 then, at most 50, 55 ahead", x.swap(2), 8);
            x.bound(taste, 0, 49);
            DUE.due("50 then, at most 49", x.swap(2), TeaBlends.NONE);
        }
        TeaBlends x = new TeaBlends();
        x.leaf(9, Due.tastes(40, 0, 0), 0);
        x.leaf(1, Due.tastes(1, 0, 0), 0);
        x.leaf(5, Due.tastes(41, 0, 0), 0);
        x.share(0, 20);
        x.bound(0, 39, 100);
        DUE.due("(19 * 40 + 1) / 20 is 38", x.swap(2), 4);
        x.bound(0, 38, 100);
        DUE.due("38 is kept", x.swap(2), 8);
        x.bound(0, 39, 40);
        DUE.due("801 / 20 is 40", x.swap(1), 2);
        x = new TeaBlends();
        x.leaf(9, Due.tastes(100, 0, 0), 0);
        x.leaf(1, Due.tastes(33, 89, 0), 0);
        x.share(0, 20);
        x.set(TeaBlends.FADE, 50);
        x.pass(2);
        x.bound(0, 86, 86);
        x.bound(1, 4, 4);
        DUE.due("(19 * 90 + 29) / 20 and 80 / 20, as they are today", x.swap(2), 8);
    }

    private static void lowestLeavesToSwap() {
        DUE.by("of several the lowest leaf from which, then to which");
        TeaBlends x = Due.shopOf(MILD, 7, 9, 9, 5, 5);
        for (int leaf = 0; leaf < 5; leaf++) {
            x.share(leaf, 4);
        }
        DUE.due("from the lowest of two", x.swap(0), 1);
        DUE.due("to the lowest of two", x.swap(1), 3);
        x.share(1, 0);
        x.share(3, 8);
        DUE.due("from the only one", x.swap(0), 2);
        x.share(2, 0);
        x.share(0, 8);
        DUE.due("from a cheaper one", x.swap(0), 0);
        DUE.due("to the lowest again", x.swap(1), 3);
        x.row(4, Due.row(-1));
        DUE.due("to the cheapest, though it is the last", x.swap(1), 4);
        x.row(4, Due.row(9));
        x.share(4, 4);
        DUE.due("the last one from which", x.swap(0), 4);
        x.row(0, Due.row(-9));
        DUE.due("to the first of all", x.swap(1), 0);
        DUE.due("5 and 9 less 0", x.swap(2), 14);
    }

    private static void suchBounds() {
        DUE.by("bound: 0 to 2 the low bound of a taste, 3 to 5 the high bound");
        for (int wrong : new int[] {-1, 6, FAR[0], FAR[1]}) {
            TWINS.unchangedAnywhere("looser(" + wrong + ")", x -> x.looser(wrong), TeaBlends.BAD_VALUE);
        }
        for (int bound = 0; bound <= 5; bound++) {
            int which = bound;
            for (int other = 0; other <= 5; other++) {
                int at = other;
                TWINS.unchanged(() -> tight(which), "looser(" + other + "), the bound " + bound + " is tight",
                    x -> x.looser(at), other == bound ? 8 : 0);
            }
        }
    }

    /** A blend of 10 shares of a dear leaf by one bound of 50 (or 46, looser) alone. */
    private static TeaBlends tight(int bound) {
        TeaBlends x = new TeaBlends();
        int strong = 100 << 7 * (bound % 3);
        x.leaf(9, bound < 3 ? strong : 0, 0);
        x.leaf(1, bound < 3 ? 0 : strong, 0);
        x.bound(bound % 3, bound < 3 ? 46 : 0, bound < 3 ? 100 : 54);
        return x;
    }

    private static void boundsThatCannotBeLooser() {
        DUE.by("(0 and 100 cannot be looser: then it is 0)");
        for (int bound = 0; bound <= 5; bound++) {
            DUE.due("looser(" + bound + ") of no bounds", Due.shopOf(MILD, 3).looser(bound), 0);
        }
        for (int taste = 0; taste < 3; taste++) {
            TeaBlends x = new TeaBlends();
            x.leaf(9, 20 << 7 * taste, 0);
            x.leaf(1, 0, 0);
            x.bound(taste, 1, 100);
            DUE.due("a low bound of 1", x.looser(taste), 8);
            x.bound(taste, 0, 100);
            DUE.due("a low bound of 0", x.looser(taste), 0);
            x = new TeaBlends();
            x.leaf(9, 80 << 7 * taste, 0);
            x.leaf(1, 100 << 7 * taste, 0);
            x.bound(taste, 0, 99);
            DUE.due("a high bound of 99", x.looser(3 + taste), 8);
            x.bound(taste, 0, 100);
            DUE.due("a high bound of 100", x.looser(3 + taste), 0);
            x.bound(taste, 100, 100);
            DUE.due("a low bound of 100", x.looser(taste), 0);
            x.row(1, Due.row(9));
            DUE.due("a low bound of 100, and a dear leaf", x.looser(taste), 1);
        }
    }

    private static void looserByOne() {
        DUE.by("Tells how much cheaper the cheapest blend would be (by the sum of share * price) if a bound was looser"
            + " by 1.");
        TeaBlends x = new TeaBlends();
        x.leaf(999, Due.tastes(100, 0, 0), 0);
        x.leaf(0, Due.tastes(0, 0, 0), 0);
        for (int low = 0; low <= 100; low++) {
            x.bound(0, low, 100);
            DUE.due("a low bound of " + low, x.looser(0), low % 5 == 1 ? 999 : 0);
        }
        x = new TeaBlends();
        x.leaf(0, Due.tastes(100, 0, 0), 0);
        x.leaf(999, Due.tastes(0, 0, 0), 0);
        for (int high = 0; high <= 100; high++) {
            x.bound(0, 0, high);
            DUE.due("a high bound of " + high, x.looser(3), high % 5 == 4 ? 999 : 0);
        }
        x.leaf(0, Due.tastes(0, 0, 1), 0);
        x.bound(2, 0, 0);
        x.bound(0, 0, 0);
        DUE.due("19 * 1 / 20 is 0, 20 * 1 / 20 is not", x.looser(5), 999);
    }

    private static void noCheapestToLoosen() {
        DUE.by("NONE if there is no cheapest blend with the bounds as they are");
        for (int bound = 0; bound <= 5; bound++) {
            int which = bound;
            TWINS.unchanged(TeaBlends::new, "no leaf", x -> x.looser(which), TeaBlends.NONE);
            TWINS.unchanged(EdgesOfAnswersTest::justMissed, "looser(" + bound + ")", x -> x.looser(which),
                TeaBlends.NONE);
        }
    }

    /** No blend keeps the low bound of 51, but one would keep a looser one. */
    private static TeaBlends justMissed() {
        TeaBlends x = Due.shopOf(MILD, 3);
        x.bound(0, 51, 100);
        return x;
    }

    private static void keptNoMore() {
        DUE.by("Returns how many (0 if it does not now)");
        TWINS.unchanged(TeaBlends::new, "no leaf", x -> x.keepsFor(), 0);
        TWINS.unchanged(EdgesOfAnswersTest::justMissed, "not whole", x -> x.keepsFor(), 0);
        TWINS.unchanged(() -> placed(-1, 0, 0), "below", x -> x.keepsFor(), 0);
        TWINS.unchanged(() -> placed(0, 0, 1), "above, though it fades", x -> x.keepsFor(), 0);
        TWINS.unchanged(() -> placed(0, 0, 0), "at its bounds", x -> x.keepsFor(), 1);
        TeaBlends x = Due.shopOf(Due.tastes(100, 0, 0), 1);
        x.share(0, 20);
        x.set(TeaBlends.FADE, 1);
        x.bound(0, 98, 100);
        for (int days = 21; days >= 0; days--) {
            DUE.due("97 in " + days + " days", x.keepsFor(), days);
            x.pass(1);
        }
        DUE.due("a day after", x.keepsFor(), 0);
    }

    private static void keptForFourHundredDays() {
        DUE.by("NONE if it still keeps them in 400 days");
        for (int age = 0; age <= 3; age++) {
            TeaBlends x = Due.shopOf(Due.tastes(100, 0, 0), 1);
            x.share(0, 20);
            x.set(TeaBlends.FADE, 1);
            x.bound(0, 60, 100);
            if (age > 0) {
                x.pass(age);
            }
            DUE.due("59 at the age 401, of " + age, x.keepsFor(), age == 0 ? TeaBlends.NONE : 401 - age);
        }
        TeaBlends x = whole(1, 1);
        x.set(TeaBlends.FADE, 0);
        x.bound(0, 50, 50);
        DUE.due("it never fades", x.keepsFor(), TeaBlends.NONE);
        x = whole(1, 1);
        x.set(TeaBlends.FADE, 99);
        x.bound(1, 0, 50);
        DUE.due("it fades to nothing at once, within bounds", x.keepsFor(), TeaBlends.NONE);
        x.bound(1, 1, 50);
        DUE.due("50 * 109 / 1000 is 5, 50 * 10 / 1000 is 0", x.keepsFor(), 10);
    }

    private static void keptAroundTheLastDay() {
        DUE.by("Tells in how many days the blend does not keep its bounds any more, if nothing else is done.");
        for (int day : new int[] {0, 9990, 9998, 9999}) {
            TeaBlends x = new TeaBlends();
            Due.days(x, day);
            x.leaf(1, Due.tastes(100, 0, 0), 0);
            x.share(0, 20);
            x.bound(0, 95, 100);
            DUE.due("94 in 6 days, on the day " + day, x.keepsFor(), 6);
            x.bound(0, 0, 100);
            DUE.due("no bounds, on the day " + day, x.keepsFor(), TeaBlends.NONE);
        }
        TeaBlends x = new TeaBlends();
        x.leaf(1, Due.tastes(100, 0, 0), 9999);
        x.share(0, 20);
        x.bound(0, 95, 100);
        x.row(0, Due.row(1, 2, 3, 4, 5, 6, 7));
        x.mix(9999);
        DUE.due("prices and stocks do not matter", x.keepsFor(), 6);
    }

    private static void mostOfTheStocks() {
        DUE.by("Returns how many, 0 to 9999");
        int[][] due = {{0, 20, 0}, {1, 20, 1}, {9998, 20, 9998}, {9999, 20, 9999}, {9999, 19, 9999}, {0, 1, 0},
            {1, 1, 20}, {499, 1, 9980}, {500, 1, 9999}, {9499, 19, 9998}, {9500, 19, 9999}, {1, 19, 1}, {18, 19, 18},
            {19, 19, 20}, {7, 6, 23}};
        for (int[] d : due) {
            int stock = d[0];
            int share = d[1];
            int most = d[2];
            TWINS.unchanged(() -> shared(stock, share), stock + " grams, share " + share, x -> x.mostGrams(), most);
            DUE.due("so many can be mixed", most == 0 || shared(stock, share).mix(most) == 1 ? 1 : 0, 1);
            DUE.due("and no more", most == 9999 || shared(stock, share).mix(most + 1) < 0 ? 1 : 0, 1);
        }
        TeaBlends x = shared(3, 4);
        DUE.due("of the leaf 1 there are 9999", x.mostGrams(), 15);
        x.share(0, 0);
        x.share(1, 20);
        DUE.due("a leaf without share does not matter", x.mostGrams(), 9999);
    }

    private static TeaBlends shared(int stock, int share) {
        TeaBlends x = new TeaBlends();
        x.leaf(1, MILD, stock);
        x.leaf(1, MILD, 9999);
        x.share(0, share);
        x.share(1, 20 - share);
        return x;
    }

    private static void mostOfABrokenBlend() {
        DUE.by("(0 if it does not keep its bounds)");
        TeaBlends y = whole(1, 70);
        y.bound(0, 50, 50);
        DUE.due("kept today", y.mostGrams(), 70);
        y.pass(1);
        DUE.due("kept the day before", y.mostGrams(), 0);
        TWINS.unchanged(TeaBlends::new, "no leaf", x -> x.mostGrams(), 0);
        TWINS.unchanged(EdgesOfAnswersTest::justMissed, "not whole", x -> x.mostGrams(), 0);
        for (int taste = 0; taste < 3; taste++) {
            int[] most = {0, 1000, 0};
            for (int place = -1; place <= 1; place++) {
                int[] p = {0, 0, 0};
                p[taste] = place;
                TWINS.unchanged(() -> placed(p[0], p[1], p[2]), "the taste " + taste + " at the place " + place,
                    x -> x.mostGrams(), most[1 + place]);
            }
        }
    }
}
