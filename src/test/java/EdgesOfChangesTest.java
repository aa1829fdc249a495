/** Boundary cases of the promises 1 to 10, sentence by sentence. */
public final class EdgesOfChangesTest {
    private static final int MILD = Due.tastes(50, 50, 50);
    private static final int[] FAR = {Integer.MIN_VALUE, Integer.MAX_VALUE};
    private static final Due DUE = new Due();
    private static final Twins TWINS = new Twins(DUE);

    public static void main(String[] args) {
        aNewShop();
        eachChangeIsOne();
        suchSettings();
        settingsInRange();
        aLeafComesFresh();
        numberOfALeaf();
        bitsAboveTheTastes();
        leavesFarOut();
        suchLeavesForRows();
        rowOfTheLastPlace();
        priceOfTodayThen();
        gramsToBuy();
        stocksToBuyInto();
        meanAges();
        suchTastes();
        lowAndHighBounds();
        previousBounds();
        suchLeavesForShares();
        sharesInRange();
        sharesAboveTwenty();
        chosenIfThereIsOne();
        chosenAsToldByCheapest();
        gramsToMix();
        gramsRoundedUp();
        stocksToMixFrom();
        boundsToMixWithin();
        daysToPass();
        theLastDay();
        DUE.end();
    }

    private static void aNewShop() {
        DUE.by("Creates a shop without leaves, on the day 0.");
        TeaBlends x = new TeaBlends();
        DUE.due("count(0)", x.count(0), 0);
        DUE.due("count(1)", x.count(1), 0);
        DUE.due("of(0, 0)", x.of(0, 0), TeaBlends.NO_SUCH);
        DUE.due("blend(5)", x.blend(5), 0);
        DUE.due("why()", x.why(), 1);
        DUE.due("cheapest(0)", x.cheapest(0), TeaBlends.NONE);
        DUE.due("keepsFor()", x.keepsFor(), 0);
        DUE.due("mostGrams()", x.mostGrams(), 0);
        DUE.due("fault()", x.fault(), 0);
        TWINS.unchanged(TeaBlends::new, "buy(0, 1)", y -> y.buy(0, 1), TeaBlends.NO_SUCH);
        TWINS.unchanged(TeaBlends::new, "share(0, 0)", y -> y.share(0, 0), TeaBlends.NO_SUCH);
        TWINS.unchanged(TeaBlends::new, "row(0, ..)", y -> y.row(0, Due.row()), TeaBlends.NO_SUCH);
        TWINS.unchanged(TeaBlends::new, "mix(1)", y -> y.mix(1), TeaBlends.NOT_POSSIBLE);
        TWINS.unchanged(TeaBlends::new, "choose()", y -> y.choose(), TeaBlends.NOT_POSSIBLE);
        TWINS.unchanged(TeaBlends::new, "undo()", y -> y.undo(), TeaBlends.NOT_POSSIBLE);
        TWINS.unchanged(TeaBlends::new, "restore(0)", y -> y.restore(0), TeaBlends.NOT_POSSIBLE);
        TWINS.unchanged(TeaBlends::new, "carryOut()", y -> y.carryOut(), TeaBlends.BAD_TEXT);
    }

    private static void eachChangeIsOne() {
        DUE.by("This is a change.");
        TeaBlends x = Due.shopOf(MILD, 7);
        x.save(0);
        Due.write(x, "d1");
        int[] answers = {x.share(0, 20), x.mix(9), x.undo(), x.set(0, 10), x.undo(), x.row(0, Due.row()), x.undo(),
            x.buy(0, 1), x.undo(), x.bound(0, 0, 100), x.undo(), x.choose(), x.undo(), x.pass(1), x.undo(),
            x.restore(0), x.undo(), x.carryOut(), x.undo(), x.leaf(1, MILD, 1), x.undo()};
        int[] due = {20, 7, 2, 10, 2, 7, 2, 1001, 2, 100, 2, 7, 2, 1, 2, 1, 2, 1, 2, 1, 2};
        for (int i = 0; i < due.length; i++) {
            DUE.due("the answer " + i, answers[i], due[i]);
        }
    }

    private static void suchSettings() {
        DUE.by("BAD_VALUE if there is no such setting");
        TeaBlends x = new TeaBlends();
        DUE.due("set(0, 1)", x.set(0, 1), 10);
        DUE.due("set(1, 1)", x.set(1, 1), 7);
        TWINS.unchangedAnywhere("set(2, 1)", y -> y.set(2, 1), TeaBlends.BAD_VALUE);
        TWINS.unchangedAnywhere("set(-1, 1)", y -> y.set(-1, 1), TeaBlends.BAD_VALUE);
        for (int far : FAR) {
            TWINS.unchanged(Twins::busy, "set(" + far + ", 1)", y -> y.set(far, 1), TeaBlends.BAD_VALUE);
        }
    }

    private static void settingsInRange() {
        DUE.by("BAD_VALUE if [..] the value is out of its range");
        int[][] ranges = {{0, 0, 99}, {1, 1, 7}};
        for (int[] range : ranges) {
            int setting = range[0];
            for (int value = range[1]; value <= range[2]; value++) {
                TeaBlends x = new TeaBlends();
                DUE.due("the first value", x.set(setting, value), setting == 0 ? 10 : 7);
                DUE.due("set(" + setting + ", " + value + ") holds", x.set(setting, value), value);
            }
            for (int wrong : new int[] {range[1] - 1, range[2] + 1, FAR[0], FAR[1]}) {
                TWINS.unchanged(Twins::busy, "set(" + setting + ", " + wrong + ")", y -> y.set(setting, wrong),
                    TeaBlends.BAD_VALUE);
            }
        }
    }

    private static void aLeafComesFresh() {
        DUE.by("A leaf comes, fresh, with the share 0.");
        TeaBlends x = new TeaBlends();
        for (int times = 0; times < 3; times++) {
            DUE.due("leaf()", x.leaf(40, Due.tastes(1, 2, 3), 5), 0);
            int[] due = {40, 1, 2, 3, 5, 0, 0};
            for (int what = 0; what <= 6; what++) {
                DUE.due("where another one was, of(0, " + what + ")", x.of(0, what), due[what]);
            }
            x.undo();
            x.leaf(9, MILD, 1);
            x.row(0, Due.row(9, 9, 9, 9, 9, 9, 9));
            x.share(0, 20);
            x.pass(7);
            for (int i = 0; i < 4; i++) {
                x.undo();
            }
        }
    }

    private static void numberOfALeaf() {
        DUE.by("TOO_MANY if there are 5 leaves");
        TeaBlends x = Due.shopOf(MILD, 1, 1, 1, 1);
        DUE.due("the fifth", x.leaf(1, MILD, 1), 4);
        DUE.due("the sixth", x.leaf(1, MILD, 1), TeaBlends.TOO_MANY);
        TWINS.unchanged(Twins::full, "the sixth", y -> y.leaf(0, 0, 0), TeaBlends.TOO_MANY);
        x.undo();
        DUE.due("a fifth once more", x.leaf(1, MILD, 1), 4);
    }

    private static void bitsAboveTheTastes() {
        DUE.by("the three tastes, as 7 bits each: strength is the lowest 7 bits, and so on (bits above do not matter)");
        TeaBlends x = new TeaBlends();
        x.leaf(1, Due.tastes(100, 0, 64) | 1 << 21, 1);
        x.leaf(1, Due.tastes(0, 100, 36) | 1 << 31, 1);
        x.leaf(1, Due.tastes(1, 2, 100) | -1 << 21, 1);
        int[][] due = {{100, 0, 64}, {0, 100, 36}, {1, 2, 100}};
        for (int leaf = 0; leaf < 3; leaf++) {
            for (int taste = 0; taste < 3; taste++) {
                DUE.due("of(" + leaf + ", " + (1 + taste) + ")", x.of(leaf, 1 + taste), due[leaf][taste]);
            }
        }
        int highest = 1 << 20 | 37 << 14;
        TWINS.unchangedAnywhere("the highest bit that matters", y -> y.leaf(1, highest, 1), TeaBlends.BAD_VALUE);
        TWINS.unchangedAnywhere("all bits", y -> y.leaf(1, -1, 1), TeaBlends.BAD_VALUE);
    }

    private static void leavesFarOut() {
        DUE.by("BAD_VALUE if price, a taste or stock is out of range");
        for (int far : FAR) {
            TWINS.unchangedAnywhere("a price of " + far, y -> y.leaf(far, MILD, 1), TeaBlends.BAD_VALUE);
            TWINS.unchangedAnywhere("a stock of " + far, y -> y.leaf(1, MILD, far), TeaBlends.BAD_VALUE);
        }
    }

    private static void suchLeavesForRows() {
        DUE.by("row: NO_SUCH if there is no such leaf");
        DUE.due("the last one of 3", Twins.busy().row(2, Due.row()), 55);
        TWINS.unchanged(Twins::busy, "row(3, ..)", y -> y.row(3, Due.row()), TeaBlends.NO_SUCH);
        DUE.due("the last one of 5", Twins.full().row(4, Due.row()), 0);
        TWINS.unchanged(Twins::full, "row(5, ..)", y -> y.row(5, Due.row()), TeaBlends.NO_SUCH);
        TWINS.unchangedAnywhere("row(-1, ..)", y -> y.row(-1, Due.row()), TeaBlends.NO_SUCH);
        for (int far : FAR) {
            TWINS.unchanged(Twins::full, "row(" + far + ", ..)", y -> y.row(far, Due.row()), TeaBlends.NO_SUCH);
        }
    }

    private static void rowOfTheLastPlace() {
        DUE.by("the changes, each and 9, as 5 bits: that of the place 0 is the lowest 5 bits, and so on");
        for (int change : new int[] {-9, 9}) {
            TeaBlends x = Due.shopOf(MILD, 100);
            x.row(0, Due.row(0, 0, 0, 0, 0, 0, change));
            for (int day = 0; day <= 7; day++) {
                DUE.due(change + " in the place 6, day " + day, x.of(0, 0), day == 6 ? 100 + change : 100);
                x.pass(1);
            }
        }
        DUE.by("(bits above do not matter)");
        TeaBlends x = Due.shopOf(MILD, 100);
        DUE.due("the bit 35", x.row(0, Due.row(1) | 1L << 35), 101);
        DUE.due("the bit 63", x.row(0, Due.row(2) | 1L << 63), 102);
        DUE.due("all of them", x.row(0, Due.row(3, 3, 3, 3, 3, 3, 9) | -1L << 35), 103);
        x.pass(6);
        DUE.due("the place below them", x.of(0, 0), 109);
        DUE.by("BAD_VALUE if a change is out of range");
        long highest = Due.row(0, 0, 0, 0, 0, 0, -6) | 1L << 34;
        TWINS.unchanged(Twins::busy, "the bit 34", y -> y.row(0, highest), TeaBlends.BAD_VALUE);
        TWINS.unchanged(Twins::busy, "all bits", y -> y.row(0, -1L), TeaBlends.BAD_VALUE);
        DUE.due("no bits", x.row(0, 0L), 91);
    }

    private static void priceOfTodayThen() {
        DUE.by("Returns the price of the leaf today then");
        TeaBlends x = Due.shopOf(MILD, 100, 0);
        x.pass(6);
        DUE.due("the last place of the week", x.row(0, Due.row(1, 2, 3, 4, 5, 6, 7)), 107);
        x.pass(1);
        DUE.due("the first place of the next", x.row(0, Due.row(1, 2, 3, 4, 5, 6, 7)), 101);
        DUE.due("at least 0", x.row(1, Due.row(-1)), 0);
    }

    private static void gramsToBuy() {
        DUE.by("buy: grams: 1 to 9999");
        TeaBlends x = new TeaBlends();
        x.leaf(1, MILD, 0);
        DUE.due("buy(0, 1)", x.buy(0, 1), 1);
        x.leaf(1, MILD, 0);
        DUE.due("buy(1, 9999)", x.buy(1, 9999), 9999);
        for (int wrong : new int[] {0, -1, 10000, FAR[0], FAR[1]}) {
            TWINS.unchanged(Twins::busy, "buy(0, " + wrong + ")", y -> y.buy(0, wrong), TeaBlends.BAD_VALUE);
        }
        DUE.by("buy: NO_SUCH if there is no such leaf");
        DUE.due("the last one of 3", Twins.busy().buy(2, 1), 86);
        for (int wrong : new int[] {3, 4, 5, -1, FAR[0], FAR[1]}) {
            TWINS.unchanged(Twins::busy, "buy(" + wrong + ", 1)", y -> y.buy(wrong, 1), TeaBlends.NO_SUCH);
        }
    }

    private static void stocksToBuyInto() {
        DUE.by("NOT_POSSIBLE if the stock would be above 9999");
        TeaBlends x = new TeaBlends();
        x.leaf(1, MILD, 9998);
        DUE.due("9998 and 1", x.buy(0, 1), 9999);
        TWINS.unchanged(Twins::full, "9999 and 1", y -> y.buy(0, 1), TeaBlends.NOT_POSSIBLE);
        TWINS.unchanged(Twins::full, "9999 and 9999", y -> y.buy(4, 9999), TeaBlends.NOT_POSSIBLE);
        DUE.due("85 and 9914", Twins.busy().buy(2, 9914), 9999);
        TWINS.unchanged(Twins::busy, "85 and 9915", y -> y.buy(2, 9915), TeaBlends.NOT_POSSIBLE);
    }

    private static void meanAges() {
        DUE.by("its age becomes the mean of all grams: (grams ahead * age) / (grams then), 0 if there are none");
        TeaBlends x = new TeaBlends();
        x.leaf(1, MILD, 0);
        x.leaf(1, MILD, 9998);
        x.leaf(1, MILD, 1);
        Due.days(x, 9999);
        x.buy(0, 1);
        DUE.due("0 grams ahead", x.of(0, 5), 0);
        x.buy(1, 1);
        DUE.due("9998 * 9999 / 9999", x.of(1, 5), 9998);
        x.buy(2, 9998);
        DUE.due("1 * 9999 / 9999", x.of(2, 5), 1);
        x = new TeaBlends();
        x.leaf(1, MILD, 5);
        x.buy(0, 5);
        DUE.due("10 * 0 / 10", x.of(0, 5), 0);
        x.pass(2);
        x.buy(0, 10);
        DUE.due("10 * 2 / 20", x.of(0, 5), 1);
        x.buy(0, 1);
        DUE.due("20 * 1 / 21", x.of(0, 5), 0);
        x.share(0, 20);
        x.pass(9);
        x.mix(21);
        DUE.due("an empty stock keeps its age", x.of(0, 5), 9);
        x.buy(0, 7);
        DUE.due("0 * 9 / 7", x.of(0, 5), 0);
    }

    private static void suchTastes() {
        DUE.by("taste: 0 to 2");
        TeaBlends x = new TeaBlends();
        for (int taste = 0; taste < 3; taste++) {
            DUE.due("bound(" + taste + ", 1, 99)", x.bound(taste, 1, 99), 100);
        }
        for (int wrong : new int[] {-1, 3, FAR[0], FAR[1]}) {
            TWINS.unchangedAnywhere("bound(" + wrong + ", 1, 99)", y -> y.bound(wrong, 1, 99), TeaBlends.NO_SUCH);
        }
    }

    private static void lowAndHighBounds() {
        DUE.by("low: 0 to 100");
        TeaBlends x = new TeaBlends();
        DUE.due("0", x.bound(0, 0, 7), 100);
        DUE.due("100", x.bound(0, 100, 100), 7);
        TWINS.unchangedAnywhere("-1", y -> y.bound(0, -1, 100), TeaBlends.BAD_VALUE);
        TWINS.unchangedAnywhere("101", y -> y.bound(0, 101, 101), TeaBlends.BAD_VALUE);
        TWINS.unchangedAnywhere("the least", y -> y.bound(0, FAR[0], 100), TeaBlends.BAD_VALUE);
        TWINS.unchangedAnywhere("the most", y -> y.bound(0, FAR[1], FAR[1]), TeaBlends.BAD_VALUE);
        DUE.by("high: low to 100");
        DUE.due("0 to 0", x.bound(1, 0, 0), 100);
        DUE.due("60 to 60", x.bound(1, 60, 60), 0);
        DUE.due("60 to 100", x.bound(1, 60, 100), 6060);
        TWINS.unchangedAnywhere("60 to 59", y -> y.bound(1, 60, 59), TeaBlends.BAD_VALUE);
        TWINS.unchangedAnywhere("60 to 101", y -> y.bound(1, 60, 101), TeaBlends.BAD_VALUE);
        TWINS.unchangedAnywhere("0 to -1", y -> y.bound(1, 0, -1), TeaBlends.BAD_VALUE);
        TWINS.unchangedAnywhere("100 to 99", y -> y.bound(1, 100, 99), TeaBlends.BAD_VALUE);
        TWINS.unchangedAnywhere("0 to the most", y -> y.bound(1, 0, FAR[1]), TeaBlends.BAD_VALUE);
        TWINS.unchangedAnywhere("0 to the least", y -> y.bound(1, 0, FAR[0]), TeaBlends.BAD_VALUE);
    }

    private static void previousBounds() {
        DUE.by("Returns 100 * the previous low bound and the previous high one, together");
        TeaBlends x = new TeaBlends();
        DUE.due("0 and 100", x.bound(2, 0, 0), 100);
        DUE.due("0 and 0", x.bound(2, 100, 100), 0);
        DUE.due("100 and 100", x.bound(2, 99, 100), 10100);
        DUE.due("99 and 100", x.bound(2, 0, 1), 10000);
        DUE.due("0 and 1", x.bound(2, 0, 1), 1);
    }

    private static void suchLeavesForShares() {
        DUE.by("share: NO_SUCH if there is no such leaf");
        DUE.due("the last one of 3", Twins.busy().share(2, 6), 20);
        for (int wrong : new int[] {3, 4, 5, -1, FAR[0], FAR[1]}) {
            TWINS.unchanged(Twins::busy, "share(" + wrong + ", 0)", y -> y.share(wrong, 0), TeaBlends.NO_SUCH);
        }
        DUE.due("the last one of 5", Twins.full().share(4, 4), 20);
        TWINS.unchanged(Twins::full, "share(5, 0)", y -> y.share(5, 0), TeaBlends.NO_SUCH);
    }

    private static void sharesInRange() {
        DUE.by("share: 0 to 20");
        TeaBlends x = Due.shopOf(MILD, 1);
        for (int share = 0; share <= 20; share++) {
            DUE.due("share(0, " + share + ")", x.share(0, share), share);
            DUE.due("of(0, 6)", x.of(0, 6), share);
        }
        for (int wrong : new int[] {-1, 21, FAR[0], FAR[1]}) {
            TWINS.unchanged(Twins::busy, "share(1, " + wrong + ")", y -> y.share(1, wrong), TeaBlends.BAD_VALUE);
        }
    }

    private static void sharesAboveTwenty() {
        DUE.by("NOT_POSSIBLE if all shares together would be more than 20");
        for (int share = 0; share <= 20; share++) {
            int rest = 20 - share;
            TeaBlends x = Due.shopOf(MILD, 1, 2);
            x.share(0, share);
            DUE.due(share + " and " + rest, x.share(1, rest), 20);
            DUE.due("the same again", x.share(1, rest), 20);
            if (share > 0) {
                DUE.due("one more than " + rest, x.share(1, rest + 1), TeaBlends.NOT_POSSIBLE);
            }
            DUE.due("it stays", x.of(1, 6), rest);
        }
        TWINS.unchanged(Twins::busy, "10, 5 and 6", y -> y.share(1, 5), TeaBlends.NOT_POSSIBLE);
        DUE.due("10, 3 and 6", Twins.busy().share(1, 3), 19);
    }

    private static void chosenIfThereIsOne() {
        DUE.by("choose: NOT_POSSIBLE if there is none.");
        TeaBlends x = new TeaBlends();
        x.leaf(999, Due.tastes(33, 0, 0), 0);
        x.bound(0, 33, 33);
        DUE.due("one blend alone", x.choose(), 999);
        DUE.due("all of the leaf", x.of(0, 6), 20);
        DUE.due("the same again, a change", x.choose(), 999);
        DUE.due("the changes", x.count(13), 4);
        TWINS.unchanged(() -> bounded(34, 100), "the low bound too high", y -> y.choose(), TeaBlends.NOT_POSSIBLE);
        TWINS.unchanged(() -> bounded(0, 32), "the high bound too low", y -> y.choose(), TeaBlends.NOT_POSSIBLE);
    }

    private static void chosenAsToldByCheapest() {
        DUE.by("The blend becomes the cheapest one (as told by cheapest()).");
        for (int low = 0; low <= 100; low += 5) {
            TeaBlends x = new TeaBlends();
            for (int leaf = 0; leaf < 5; leaf++) {
                x.leaf(7 + 31 * leaf, Due.tastes(25 * leaf, 100 - 20 * leaf, 50), 0);
                x.share(leaf, leaf % 3);
            }
            x.bound(0, low, 100);
            x.bound(1, 20, 90);
            int[] told = new int[6];
            for (int what = 0; what <= 5; what++) {
                told[what] = x.cheapest(what);
            }
            DUE.due("at least " + low + ", choose()", x.choose(),
                told[0] == TeaBlends.NONE ? TeaBlends.NOT_POSSIBLE : told[0]);
            for (int leaf = 0; leaf < 5; leaf++) {
                int due = told[0] == TeaBlends.NONE ? leaf % 3 : told[1 + leaf];
                DUE.due("at least " + low + ", the share of the leaf " + leaf, x.of(leaf, 6), due);
            }
            DUE.due("at least " + low + ", it keeps its bounds", x.why() == 0 ? 1 : 0, told[0] < 0 ? 0 : 1);
            DUE.due("at least " + low + ", chosen again", x.choose() < 0 ? 1 : 0, told[0] < 0 ? 1 : 0);
        }
    }

    /** A leaf with a strength of 33 and a blend of 7 shares. */
    private static TeaBlends bounded(int low, int high) {
        TeaBlends x = Due.shopOf(Due.tastes(33, 0, 0), 5);
        x.bound(0, low, high);
        x.share(0, 7);
        return x;
    }

    private static TeaBlends whole(int stock) {
        TeaBlends x = new TeaBlends();
        x.leaf(3, MILD, stock);
        x.share(0, 20);
        return x;
    }

    private static void gramsToMix() {
        DUE.by("mix: grams: 1 to 9999");
        TeaBlends x = whole(9999);
        DUE.due("mix(1)", x.mix(1), 3);
        x.undo();
        DUE.due("mix(9999)", x.mix(9999), 3);
        DUE.due("the grams", x.count(2), 9999);
        DUE.due("the coins", x.count(3), 299);
        for (int wrong : new int[] {0, -1, 10000, FAR[0], FAR[1]}) {
            TWINS.unchanged(() -> whole(9999), "mix(" + wrong + ")", y -> y.mix(wrong), TeaBlends.BAD_VALUE);
        }
    }

    private static void gramsRoundedUp() {
        DUE.by("of each leaf grams * share / 20 are taken from its stock, rounded up");
        int[][] taken = {{1, 1, 1}, {1, 19, 1}, {19, 1, 1}, {20, 1, 1}, {21, 1, 2}, {40, 1, 2}, {41, 1, 3},
            {20, 19, 19}, {21, 19, 20}, {9999, 1, 500}, {9999, 19, 9500}, {9980, 1, 499}, {9981, 1, 500}};
        for (int[] t : taken) {
            TeaBlends x = new TeaBlends();
            x.leaf(1, MILD, 9999);
            x.leaf(1, MILD, 9999);
            x.leaf(1, MILD, 9999);
            x.share(0, t[1]);
            x.share(1, 20 - t[1]);
            x.mix(t[0]);
            DUE.due(t[0] + " grams, share " + t[1], x.of(0, 4), 9999 - t[2]);
            DUE.due(t[0] + " grams, no share", x.of(2, 4), 9999);
        }
        TeaBlends x = Twins.full();
        x.mix(1);
        for (int leaf = 0; leaf < 5; leaf++) {
            DUE.due("a gram, a share of 4 each", x.of(leaf, 4), 9998);
        }
    }

    private static void stocksToMixFrom() {
        DUE.by("NOT_POSSIBLE if [..] a stock is too small");
        DUE.due("77 of 77", whole(77).mix(77), 3);
        TWINS.unchanged(() -> whole(76), "77 of 76", y -> y.mix(77), TeaBlends.NOT_POSSIBLE);
        TWINS.unchanged(() -> whole(0), "1 of 0", y -> y.mix(1), TeaBlends.NOT_POSSIBLE);
        for (int leaf = 0; leaf < 3; leaf++) {
            int scarce = leaf;
            DUE.due("the last gram of the leaf " + leaf, scarce(leaf).mix(40), 5);
            TWINS.unchanged(() -> scarce(scarce), "a gram more", y -> y.mix(41), TeaBlends.NOT_POSSIBLE);
        }
    }

    /** Three leaves, of one of which there are 2 grams for its one share. */
    private static TeaBlends scarce(int leaf) {
        TeaBlends x = new TeaBlends();
        for (int i = 0; i < 3; i++) {
            x.leaf(5, MILD, i == leaf ? 2 : 1000);
            x.share(i, i == leaf ? 1 : i == (leaf + 1) % 3 ? 9 : 10);
        }
        return x;
    }

    private static void boundsToMixWithin() {
        DUE.by("NOT_POSSIBLE if the blend does not keep its bounds");
        for (int taste = 0; taste < 3; taste++) {
            int which = taste;
            DUE.due("at the low bound", mildWithin(which, 50, 100).mix(1), 3);
            DUE.due("at the high bound", mildWithin(which, 0, 50).mix(1), 3);
            TWINS.unchanged(() -> mildWithin(which, 51, 100), "below", y -> y.mix(1), TeaBlends.NOT_POSSIBLE);
            TWINS.unchanged(() -> mildWithin(which, 0, 49), "above", y -> y.mix(1), TeaBlends.NOT_POSSIBLE);
        }
        TWINS.unchanged(EdgesOfChangesTest::almostWhole, "not whole", y -> y.mix(1), TeaBlends.NOT_POSSIBLE);
    }

    private static TeaBlends mildWithin(int taste, int low, int high) {
        TeaBlends x = whole(100);
        x.bound(taste, low, high);
        return x;
    }

    private static TeaBlends almostWhole() {
        TeaBlends x = whole(100);
        x.share(0, 19);
        return x;
    }

    private static void daysToPass() {
        DUE.by("days: 1 to 99");
        TeaBlends x = Due.shopOf(MILD, 1, 2);
        DUE.due("pass(1)", x.pass(1), 1);
        DUE.due("pass(99)", x.pass(99), 100);
        DUE.due("all leaves are older", x.of(0, 5) + x.of(1, 5), 200);
        for (int wrong : new int[] {0, -1, 100, FAR[0], FAR[1]}) {
            TWINS.unchangedAnywhere("pass(" + wrong + ")", y -> y.pass(wrong), TeaBlends.BAD_VALUE);
        }
    }

    private static TeaBlends onDay(int day) {
        TeaBlends x = Due.shopOf(MILD, 1, 2);
        Due.days(x, day);
        return x;
    }

    private static void theLastDay() {
        DUE.by("NOT_POSSIBLE if it would be above 9999");
        DUE.due("9998 and 1", onDay(9998).pass(1), 9999);
        DUE.due("9900 and 99", onDay(9900).pass(99), 9999);
        TWINS.unchanged(() -> onDay(9998), "9998 and 2", y -> y.pass(2), TeaBlends.NOT_POSSIBLE);
        TWINS.unchanged(() -> onDay(9901), "9901 and 99", y -> y.pass(99), TeaBlends.NOT_POSSIBLE);
        TWINS.unchanged(() -> onDay(9999), "9999 and 1", y -> y.pass(1), TeaBlends.NOT_POSSIBLE);
        TWINS.unchanged(() -> onDay(9999), "9999 and 99", y -> y.pass(99), TeaBlends.NOT_POSSIBLE);
        TeaBlends x = onDay(9999);
        DUE.due("the age on the last day", x.of(1, 5), 9999);
        DUE.due("a leaf that comes then", x.leaf(1, MILD, 1), 2);
        DUE.due("it is fresh", x.of(2, 5), 0);
    }
}
