import java.util.Arrays;

/** A tea shop: leaves that age, blends of them within bounds, and what may come of changing either. */
public final class TeaBlends {
    public static final int NO_SUCH = -1, BAD_VALUE = -2, BAD_TEXT = -3, TOO_MANY = -4, NOT_POSSIBLE = -5, NONE = -6;
    public static final int FADE = 0, WEEK = 1;

    private static final int LEAVES = 5;
    private static final int TASTES = 3;
    private static final int PLACES = 7;
    private static final int WHOLE = 20;
    private static final int MOST_PRICE = 999;
    private static final int MOST_TASTE = 100;
    private static final int MOST_GRAMS = 9999;
    private static final int MOST_PASSED = 99;
    private static final int LAST_DAY = 9999;
    private static final int FARTHEST = 400;
    private static final int TEXT = 80;
    private static final int SLOTS = 2;
    private static final int STATES = 6;
    private static final int AS_IT_IS = -1;
    private static final int[] FIRST_SETTING = {10, 7};
    private static final int[] LEAST_SETTING = {0, 1};
    private static final int[] MOST_SETTING = {99, 7};

    private final Shop shop = new Shop();
    private final History history = new History();
    private final Shop[] slots = new Shop[SLOTS];
    private final Pad pad = new Pad();
    private final OrderReader orders = new OrderReader(pad);
    private final Search search = new Search();

    public TeaBlends() {
    }

    // ---- changes

    public int set(int setting, int value) {
        history.draft(shop);
        return history.settle(shop.changeSetting(setting, value));
    }

    public int leaf(int price, int tastes, int stock) {
        history.draft(shop);
        return history.settle(shop.addLeaf(price, tastes & 127, tastes >> 7 & 127, tastes >> 14 & 127, stock));
    }

    public int row(int leaf, long row) {
        history.draft(shop);
        return history.settle(shop.changeRow(leaf, row));
    }

    public int buy(int leaf, int grams) {
        history.draft(shop);
        return history.settle(shop.addGrams(leaf, grams));
    }

    public int bound(int taste, int low, int high) {
        history.draft(shop);
        return history.settle(shop.changeBounds(taste, low, high));
    }

    public int share(int leaf, int share) {
        history.draft(shop);
        return history.settle(shop.changeShare(leaf, share));
    }

    public int choose() {
        if (!search.find(shop, AS_IT_IS)) {
            return NOT_POSSIBLE;
        }
        history.draft(shop);
        shop.takeShares(search.best);
        return history.settle(search.bestSum / WHOLE);
    }

    public int mix(int grams) {
        history.draft(shop);
        return history.settle(shop.mixGrams(grams));
    }

    public int pass(int days) {
        history.draft(shop);
        return history.settle(shop.passDays(days));
    }

    // ---- what there is

    public int of(int leaf, int what) {
        if (!shop.hasLeaf(leaf)) {
            return NO_SUCH;
        }
        switch (what) {
            case 0:
                return shop.priceOf(leaf);
            case 1:
            case 2:
            case 3:
                return shop.tasteOf(leaf, what - 1, 0);
            case 4:
                return shop.leaves[leaf].stock;
            case 5:
                return shop.leaves[leaf].age;
            case 6:
                return shop.leaves[leaf].share;
            default:
                return BAD_VALUE;
        }
    }

    public int blend(int what) {
        switch (what) {
            case 0:
                return shop.blendPrice();
            case 1:
            case 2:
            case 3:
                return shop.tasteSum(what - 1, 0) / WHOLE;
            case 4:
                return shop.allShares();
            case 5:
                return shop.leavesInBlend();
            default:
                return BAD_VALUE;
        }
    }

    public int why() {
        return shop.whyBroken(0);
    }

    public int count(int what) {
        if (what >= 4 && what < 4 + TASTES) {
            return shop.low[what - 4];
        }
        if (what >= 7 && what < 7 + TASTES) {
            return shop.high[what - 7];
        }
        switch (what) {
            case 0:
                return shop.day;
            case 1:
                return shop.leafCount;
            case 2:
                return shop.mixedGrams;
            case 3:
                return shop.coins;
            case 10:
                return shop.settings[FADE];
            case 11:
                return shop.settings[WEEK];
            case 12:
                return pad.length;
            case 13:
                return history.kept;
            default:
                return BAD_VALUE;
        }
    }

    public long taste(int taste) {
        if (taste < 0 || taste >= TASTES) {
            return 0L;
        }
        return bitsOf((double) shop.tasteSum(taste, 0) / WHOLE, 52, 1023);
    }

    public int mean() {
        if (shop.mixedGrams == 0) {
            return 0;
        }
        float mean = (float) shop.coins / (float) shop.mixedGrams;
        return (int) bitsOf((double) mean, 23, 127);
    }

    // ---- what if; nothing changes

    public int cheapest(int what) {
        if (what < 0 || what > LEAVES) {
            return BAD_VALUE;
        }
        if (!search.find(shop, AS_IT_IS)) {
            return NONE;
        }
        return what == 0 ? search.bestSum / WHOLE : search.best[what - 1];
    }

    public int swap(int what) {
        if (what < 0 || what > 2) {
            return BAD_VALUE;
        }
        int pair = shop.bestSwap();
        if (pair < 0) {
            return NONE;
        }
        int from = pair / LEAVES;
        int to = pair % LEAVES;
        if (what == 2) {
            return shop.priceOf(from) - shop.priceOf(to);
        }
        return what == 0 ? from : to;
    }

    public int looser(int bound) {
        if (bound < 0 || bound >= 2 * TASTES) {
            return BAD_VALUE;
        }
        if (!search.find(shop, AS_IT_IS)) {
            return NONE;
        }
        int sum = search.bestSum;
        if (!shop.canBeLooser(bound) || !search.find(shop, bound)) {
            return 0;
        }
        return sum - search.bestSum;
    }

    public int keepsFor() {
        for (int days = 0; days <= FARTHEST; days++) {
            if (shop.whyBroken(days) != 0) {
                return days;
            }
        }
        return NONE;
    }

    public int mostGrams() {
        return shop.whyBroken(0) == 0 ? shop.gramsByStocks() : 0;
    }

    // ---- texts

    public int put(long characters) {
        return pad.append(characters);
    }

    public int wipe() {
        return pad.empty();
    }

    public int fault() {
        return orders.findFault();
    }

    public int carryOut() {
        if (orders.findFault() != NONE) {
            return BAD_TEXT;
        }
        history.draft(shop);
        orders.start();
        int done = 0;
        while (done < TEXT && orders.readOrder() && carryOutOne() >= 0) {
            done++;
        }
        pad.empty();
        return history.settle(done);
    }

    // ---- undo, saving

    public int undo() {
        return history.takeBack(shop) ? history.kept : NOT_POSSIBLE;
    }

    public int save(int slot) {
        if (slot < 0 || slot >= SLOTS) {
            return BAD_VALUE;
        }
        if (slots[slot] == null) {
            slots[slot] = new Shop();
        }
        slots[slot].copyFrom(shop);
        return shop.leafCount;
    }

    public int restore(int slot) {
        if (slot < 0 || slot >= SLOTS) {
            return BAD_VALUE;
        }
        if (slots[slot] == null) {
            return NOT_POSSIBLE;
        }
        history.draft(shop);
        shop.copyFrom(slots[slot]);
        return history.settle(shop.leafCount);
    }

    private int carryOutOne() {
        int[] numbers = orders.numbers;
        switch (orders.kind) {
            case '+':
                return shop.addLeaf(numbers[0], numbers[1], numbers[2], numbers[3], numbers[4]);
            case 's':
                return shop.changeShare(numbers[0], numbers[1]);
            case 'd':
                return shop.passDays(numbers[0]);
            case 'm':
                return shop.mixGrams(numbers[0]);
            default:
                return BAD_TEXT;
        }
    }

    /**
     * The bits of a number that is 0 or positive and not tiny, in the format with so many bits of fraction.
     * The language has no doubleToLongBits; halving and doubling are exact, so nothing is rounded here.
     */
    private static long bitsOf(double value, int fractionBits, int bias) {
        if (value <= 0) {
            return 0L;
        }
        int exponent = 0;
        double scaled = value;
        for (int i = 0; i < 64 && scaled >= 2; i++) {
            scaled /= 2;
            exponent++;
        }
        for (int i = 0; i < 64 && scaled < 1; i++) {
            scaled *= 2;
            exponent--;
        }
        long fraction = (long) ((scaled - 1) * (double) (1L << fractionBits));
        return (long) (exponent + bias) << fractionBits | fraction;
    }

    /** A leaf, with its share of the blend. */
    private static final class Leaf {
        int price;
        int stock;
        int age;
        int share;
        final int[] changes = new int[PLACES];
        final int[] fresh = new int[TASTES];

        void copyFrom(Leaf other) {
            price = other.price;
            stock = other.stock;
            age = other.age;
            share = other.share;
            System.arraycopy(other.changes, 0, changes, 0, PLACES);
            System.arraycopy(other.fresh, 0, fresh, 0, TASTES);
        }

        void comeFresh(int newPrice, int newStock) {
            price = newPrice;
            stock = newStock;
            age = 0;
            share = 0;
            Arrays.fill(changes, 0);
        }

        /** The grams that so many grams of the blend take: rounded up, so that the mixing never falls short. */
        int gramsFor(int grams) {
            return (grams * share + WHOLE - 1) / WHOLE;
        }
    }

    /** All that a change can change, and that undo and the slots keep. A change that returns an error changes nothing. */
    private static final class Shop {
        final Leaf[] leaves = new Leaf[LEAVES];
        final int[] low = new int[TASTES];
        final int[] high = new int[TASTES];
        final int[] settings = FIRST_SETTING.clone();
        int leafCount;
        int day;
        int mixedGrams;
        int coins;

        Shop() {
            for (int i = 0; i < leaves.length; i++) {
                leaves[i] = new Leaf();
            }
            Arrays.fill(high, MOST_TASTE);
        }

        void copyFrom(Shop other) {
            for (int i = 0; i < LEAVES; i++) {
                leaves[i].copyFrom(other.leaves[i]);
            }
            System.arraycopy(other.low, 0, low, 0, TASTES);
            System.arraycopy(other.high, 0, high, 0, TASTES);
            System.arraycopy(other.settings, 0, settings, 0, settings.length);
            leafCount = other.leafCount;
            day = other.day;
            mixedGrams = other.mixedGrams;
            coins = other.coins;
        }

        boolean hasLeaf(int leaf) {
            return leaf >= 0 && leaf < leafCount;
        }

        int changeSetting(int setting, int value) {
            if (setting < 0 || setting >= settings.length) {
                return BAD_VALUE;
            }
            if (!isWithin(value, LEAST_SETTING[setting], MOST_SETTING[setting])) {
                return BAD_VALUE;
            }
            int previous = settings[setting];
            settings[setting] = value;
            return previous;
        }

        int addLeaf(int price, int strength, int colour, int scent, int stock) {
            boolean tastesFit = isWithin(strength, 0, MOST_TASTE) && isWithin(colour, 0, MOST_TASTE)
                && isWithin(scent, 0, MOST_TASTE);
            if (!tastesFit || !isWithin(price, 0, MOST_PRICE) || !isWithin(stock, 0, MOST_GRAMS)) {
                return BAD_VALUE;
            }
            if (leafCount >= LEAVES) {
                return TOO_MANY;
            }
            Leaf added = leaves[leafCount];
            added.comeFresh(price, stock);
            added.fresh[0] = strength;
            added.fresh[1] = colour;
            added.fresh[2] = scent;
            leafCount++;
            return leafCount - 1;
        }

        int changeRow(int leaf, long row) {
            if (!hasLeaf(leaf)) {
                return NO_SUCH;
            }
            for (int place = 0; place < PLACES; place++) {
                if (!isWithin(changeIn(row, place), -9, 9)) {
                    return BAD_VALUE;
                }
            }
            int[] changes = leaves[leaf].changes;
            for (int place = 0; place < PLACES; place++) {
                changes[place] = changeIn(row, place);
            }
            return priceOf(leaf);
        }

        private static int changeIn(long row, int place) {
            return (int) (row >> (5 * place) & 31L) - 9;
        }

        int addGrams(int leaf, int grams) {
            if (!hasLeaf(leaf)) {
                return NO_SUCH;
            }
            if (!isWithin(grams, 1, MOST_GRAMS)) {
                return BAD_VALUE;
            }
            Leaf bought = leaves[leaf];
            int then = bought.stock + grams;
            if (then > MOST_GRAMS) {
                return NOT_POSSIBLE;
            }
            bought.age = then > 0 ? bought.stock * bought.age / then : 0;
            bought.stock = then;
            return then;
        }

        int changeBounds(int taste, int newLow, int newHigh) {
            if (taste < 0 || taste >= TASTES) {
                return NO_SUCH;
            }
            if (!isWithin(newLow, 0, MOST_TASTE) || !isWithin(newHigh, newLow, MOST_TASTE)) {
                return BAD_VALUE;
            }
            int previous = 100 * low[taste] + high[taste];
            low[taste] = newLow;
            high[taste] = newHigh;
            return previous;
        }

        int changeShare(int leaf, int share) {
            if (!hasLeaf(leaf)) {
                return NO_SUCH;
            }
            if (!isWithin(share, 0, WHOLE)) {
                return BAD_VALUE;
            }
            int then = allShares() - leaves[leaf].share + share;
            if (then > WHOLE) {
                return NOT_POSSIBLE;
            }
            leaves[leaf].share = share;
            return then;
        }

        void takeShares(int[] shares) {
            for (int i = 0; i < leafCount && i < shares.length; i++) {
                leaves[i].share = shares[i];
            }
        }

        int mixGrams(int grams) {
            if (!isWithin(grams, 1, MOST_GRAMS)) {
                return BAD_VALUE;
            }
            if (whyBroken(0) != 0 || !stocksSuffice(grams)) {
                return NOT_POSSIBLE;
            }
            for (int i = 0; i < leafCount; i++) {
                leaves[i].stock -= leaves[i].gramsFor(grams);
            }
            int price = blendPrice();
            mixedGrams += grams;
            coins += grams * price / 100;
            return price;
        }

        private boolean stocksSuffice(int grams) {
            for (int i = 0; i < leafCount; i++) {
                if (leaves[i].gramsFor(grams) > leaves[i].stock) {
                    return false;
                }
            }
            return true;
        }

        int passDays(int days) {
            if (!isWithin(days, 1, MOST_PASSED)) {
                return BAD_VALUE;
            }
            if (day + days > LAST_DAY) {
                return NOT_POSSIBLE;
            }
            for (int i = 0; i < leafCount; i++) {
                leaves[i].age += days;
            }
            day += days;
            return day;
        }

        int priceOf(int leaf) {
            int week = settings[WEEK];
            int place = week > 0 ? day % week : 0;
            return Math.max(0, leaves[leaf].price + leaves[leaf].changes[place]);
        }

        int tasteOf(int leaf, int taste, int daysAhead) {
            int thousandths = Math.max(0, 1000 - settings[FADE] * (leaves[leaf].age + daysAhead));
            return leaves[leaf].fresh[taste] * thousandths / 1000;
        }

        int blendPrice() {
            int sum = 0;
            for (int i = 0; i < leafCount; i++) {
                sum += leaves[i].share * priceOf(i);
            }
            return sum / WHOLE;
        }

        int tasteSum(int taste, int daysAhead) {
            int sum = 0;
            for (int i = 0; i < leafCount; i++) {
                sum += leaves[i].share * tasteOf(i, taste, daysAhead);
            }
            return sum;
        }

        int allShares() {
            int sum = 0;
            for (int i = 0; i < leafCount; i++) {
                sum += leaves[i].share;
            }
            return sum;
        }

        int leavesInBlend() {
            int set = 0;
            for (int i = 0; i < leafCount; i++) {
                if (leaves[i].share > 0) {
                    set |= 1 << i;
                }
            }
            return set;
        }

        int whyBroken(int daysAhead) {
            if (allShares() != WHOLE) {
                return 1;
            }
            int above = 0;
            for (int taste = 0; taste < TASTES; taste++) {
                int now = tasteSum(taste, daysAhead) / WHOLE;
                if (now < low[taste]) {
                    return 2 + taste;
                }
                if (now > high[taste] && above == 0) {
                    above = 2 + TASTES + taste;
                }
            }
            return above;
        }

        int gramsByStocks() {
            int most = MOST_GRAMS;
            for (int i = 0; i < leafCount; i++) {
                if (leaves[i].share > 0) {
                    most = Math.min(most, leaves[i].stock * WHOLE / leaves[i].share);
                }
            }
            return most;
        }

        /** The best swap as one number, LEAVES * (from which leaf) + (to which one), or NONE. */
        int bestSwap() {
            int best = NONE;
            int mostSaved = 0;
            for (int from = 0; from < leafCount; from++) {
                for (int to = 0; to < leafCount; to++) {
                    int saved = priceOf(from) - priceOf(to);
                    if (saved > mostSaved && keepsAfterSwap(from, to)) {
                        mostSaved = saved;
                        best = LEAVES * from + to;
                    }
                }
            }
            return best;
        }

        private boolean keepsAfterSwap(int from, int to) {
            if (leaves[from].share == 0 || allShares() != WHOLE) {
                return false;
            }
            for (int taste = 0; taste < TASTES; taste++) {
                int sum = tasteSum(taste, 0) - tasteOf(from, taste, 0) + tasteOf(to, taste, 0);
                if (!isWithin(sum / WHOLE, low[taste], high[taste])) {
                    return false;
                }
            }
            return true;
        }

        boolean canBeLooser(int bound) {
            return bound < TASTES ? low[bound] > 0 : high[bound - TASTES] < MOST_TASTE;
        }

        private static boolean isWithin(int value, int least, int most) {
            return value >= least && value <= most;
        }
    }

    /**
     * The search for the cheapest whole blend. It tries the greater shares of the earlier leaves first and keeps
     * only what is really cheaper, so that of several the one that the document wants is found first.
     */
    private static final class Search {
        private static final int PRICE = TASTES;
        private static final int VALUES = TASTES + 1;
        private static final int NOT_FOUND = 1_000_000;

        final int[] best = new int[LEAVES];
        int bestSum;
        private int leafCount;
        private final int[] tried = new int[LEAVES];
        private final int[] lowSums = new int[TASTES];
        private final int[] highSums = new int[TASTES];
        private final int[][] values = new int[LEAVES][VALUES];
        private final int[][] leastFrom = new int[LEAVES][VALUES];
        private final int[][] mostFrom = new int[LEAVES][VALUES];
        private final int[][] sumsAhead = new int[LEAVES][VALUES];

        /** Tells whether there is one; the looser bound is numbered as looser() does, or AS_IT_IS. */
        boolean find(Shop shop, int looserBound) {
            leafCount = shop.leafCount;
            readValues(shop);
            readBounds(shop, looserBound);
            bestSum = NOT_FOUND;
            Arrays.fill(best, 0);
            tryShares(this, 0, WHOLE);
            return bestSum != NOT_FOUND;
        }

        private void readValues(Shop shop) {
            for (int leaf = leafCount - 1; leaf >= 0; leaf--) {
                for (int taste = 0; taste < TASTES; taste++) {
                    values[leaf][taste] = shop.tasteOf(leaf, taste, 0);
                }
                values[leaf][PRICE] = shop.priceOf(leaf);
                for (int i = 0; i < VALUES; i++) {
                    boolean isLast = leaf + 1 >= leafCount;
                    int value = values[leaf][i];
                    leastFrom[leaf][i] = isLast ? value : Math.min(value, leastFrom[leaf + 1][i]);
                    mostFrom[leaf][i] = isLast ? value : Math.max(value, mostFrom[leaf + 1][i]);
                }
            }
        }

        /** A taste is rounded down, so its sum may be above the high bound by less than WHOLE. */
        private void readBounds(Shop shop, int looserBound) {
            for (int taste = 0; taste < TASTES; taste++) {
                int low = shop.low[taste] - (looserBound == taste ? 1 : 0);
                int high = shop.high[taste] + (looserBound == TASTES + taste ? 1 : 0);
                lowSums[taste] = low * WHOLE;
                highSums[taste] = high * WHOLE + WHOLE - 1;
            }
        }

        private static void tryShares(Search search, int leaf, int rest) {
            if (leaf >= search.leafCount || !search.mayImprove(leaf, rest)) {
                return;
            }
            if (leaf == search.leafCount - 1) {
                search.keepBest(leaf, rest);
                return;
            }
            for (int share = rest; share >= 0; share--) {
                search.giveTo(leaf, share);
                tryShares(search, leaf + 1, rest - share);
            }
        }

        /** For the last leaf this is exact, because its own values are then the least and the most ones. */
        private boolean mayImprove(int leaf, int rest) {
            int[] ahead = sumsAhead[leaf];
            if (ahead[PRICE] + rest * leastFrom[leaf][PRICE] >= bestSum) {
                return false;
            }
            for (int taste = 0; taste < TASTES; taste++) {
                if (ahead[taste] + rest * mostFrom[leaf][taste] < lowSums[taste]) {
                    return false;
                }
                if (ahead[taste] + rest * leastFrom[leaf][taste] > highSums[taste]) {
                    return false;
                }
            }
            return true;
        }

        private void giveTo(int leaf, int share) {
            tried[leaf] = share;
            for (int i = 0; i < VALUES; i++) {
                sumsAhead[leaf + 1][i] = sumsAhead[leaf][i] + share * values[leaf][i];
            }
        }

        private void keepBest(int lastLeaf, int rest) {
            tried[lastLeaf] = rest;
            System.arraycopy(tried, 0, best, 0, leafCount);
            bestSum = sumsAhead[lastLeaf][PRICE] + rest * values[lastLeaf][PRICE];
        }
    }

    /** The states before the latest changes, in a ring with one place more: a draft, until the change has succeeded. */
    private static final class History {
        private static final int RING = STATES + 1;

        private final Shop[] states = new Shop[RING];
        private int next;
        int kept;

        History() {
            for (int i = 0; i < states.length; i++) {
                states[i] = new Shop();
            }
        }

        void draft(Shop now) {
            states[next].copyFrom(now);
        }

        /** The draft becomes a state of the history, unless the change answered an error; passes the answer on. */
        int settle(int answer) {
            if (answer >= 0) {
                next = (next + 1) % RING;
                kept = Math.min(kept + 1, STATES);
            }
            return answer;
        }

        boolean takeBack(Shop now) {
            if (kept == 0) {
                return false;
            }
            kept--;
            next = (next + RING - 1) % RING;
            now.copyFrom(states[next]);
            return true;
        }
    }

    /** The text that orders are read from. */
    private static final class Pad {
        final char[] text = new char[TEXT];
        int length;

        int append(long characters) {
            int added = lengthOf(characters);
            if (added < 0) {
                return added;
            }
            if (length + added > TEXT) {
                return TOO_MANY;
            }
            for (int i = added - 1; i >= 0; i--) {
                text[length] = (char) codeIn(characters, i);
                length++;
            }
            return length;
        }

        int empty() {
            int previous = length;
            length = 0;
            return previous;
        }

        private static int lengthOf(long characters) {
            for (int i = 0; i < 8; i++) {
                int code = codeIn(characters, i);
                if (code == 0) {
                    return i > 0 && characters >>> (8 * i) == 0 ? i : BAD_VALUE;
                }
                if (code < 33 || code > 126) {
                    return BAD_VALUE;
                }
            }
            return 8;
        }

        private static int codeIn(long characters, int fromLast) {
            return (int) (characters >>> (8 * fromLast) & 255L);
        }
    }

    /** Reads the pad from left to right, an order a call; where it cannot go on, it stands at the fault. */
    private static final class OrderReader {
        private static final char NUMBER = '#';
        private static final char DIGIT = '%';
        private static final int NUMBER_DIGITS = 4;
        private static final int NO_SIGN = 0;

        private final Pad pad;
        private int at;
        private int numberCount;
        int kind;
        final int[] numbers = new int[5];

        OrderReader(Pad pad) {
            this.pad = pad;
        }

        void start() {
            at = 0;
        }

        int findFault() {
            start();
            for (int read = 0; read < TEXT; read++) {
                if (!readOrder()) {
                    return at;
                }
                if (at == pad.length) {
                    return NONE;
                }
            }
            return at;
        }

        boolean readOrder() {
            if (at > 0 && !readSign(';')) {
                return false;
            }
            kind = sign();
            String form = formOf(kind);
            if (form.isEmpty()) {
                return false;
            }
            at++;
            numberCount = 0;
            for (int i = 0; i < form.length(); i++) {
                if (!readPart(form.charAt(i))) {
                    return false;
                }
            }
            return true;
        }

        /** What follows the first sign of an order; empty if no order begins so. */
        private static String formOf(int kind) {
            switch (kind) {
                case '+':
                    return "#:#,#,#*#";
                case 's':
                    return "%=#";
                case 'd':
                case 'm':
                    return "#";
                default:
                    return "";
            }
        }

        private boolean readPart(char part) {
            if (part == NUMBER) {
                return readNumber(NUMBER_DIGITS);
            }
            return part == DIGIT ? readNumber(1) : readSign(part);
        }

        private boolean readSign(int wanted) {
            if (sign() != wanted) {
                return false;
            }
            at++;
            return true;
        }

        /**
         * Stops ahead of a digit too many or behind a leading zero: in no order a digit follows a number, so the
         * sign that is read next finds the fault there.
         */
        private boolean readNumber(int mostDigits) {
            if (!isAtDigit() || numberCount >= numbers.length) {
                return false;
            }
            int value = sign() - '0';
            at++;
            for (int digits = 1; digits < mostDigits && value > 0 && isAtDigit(); digits++) {
                value = 10 * value + sign() - '0';
                at++;
            }
            numbers[numberCount] = value;
            numberCount++;
            return true;
        }

        private boolean isAtDigit() {
            return sign() >= '0' && sign() <= '9';
        }

        private int sign() {
            return at < pad.length ? pad.text[at] : NO_SIGN;
        }
    }
}
