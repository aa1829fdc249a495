import java.util.ArrayDeque;
import java.util.ArrayList;
import java.util.List;
import java.util.Random;

/** Random runs, always the same ones, on the class and on a plain second program of the document. */
public final class ModelTest {
    private static final int RUNS = 300;
    private static final int CALLS = 512;
    private static final String[] PIECES = {"d1", "d2", "d99", "d0", "m1", "m20", "m333", "s0=20", "s0=10", "s1=10",
        "s2=5", "s3=7", "s4=1", "s7=1", "+30:80,40,10*500", "+12:20,60,5*300", "+5:101,1,1*1", ";", ";", "+", "d", "s1",
        "=", "01", "99999", ":", ",", "*", "m", "+1:2,3,4", "x", "~"};
    private static final Due DUE = new Due();

    private final Random random;
    private final TeaBlends shop = new TeaBlends();
    private final Model model = new Model();
    private final String run;
    private final boolean calm;

    /** In a calm run tastes fade little, so that more blends keep their bounds. */
    private ModelTest(int run) {
        this.run = "run " + run + ": ";
        calm = run % 2 == 1;
        random = new Random(run);
    }

    public static void main(String[] args) {
        for (int run = 0; run < RUNS; run++) {
            ModelTest test = new ModelTest(run);
            test.start(run % 6);
            for (int call = 60; call < CALLS; call++) {
                test.callOne();
            }
        }
        DUE.end();
    }

    private void start(int leaves) {
        if (calm) {
            set(TeaBlends.FADE, random.nextInt(3));
        }
        for (int i = 0; i < leaves; i++) {
            leaf(random.nextInt(40), Due.tastes(taste(), taste(), taste()), random.nextInt(10000));
        }
    }

    private int taste() {
        return random.nextInt(101);
    }

    /** Mostly from least to most, at times just outside or far off. */
    private int about(int least, int most) {
        switch (random.nextInt(24)) {
            case 0:
                return least - 1;
            case 1:
                return most + 1;
            case 2:
                return least;
            case 3:
                return most;
            case 4:
                return random.nextInt();
            default:
                return least + random.nextInt(most - least + 1);
        }
    }

    private int aLeaf() {
        return about(0, 4);
    }

    private void callOne() {
        int kind = random.nextInt(34);
        if (kind < 14) {
            change(kind);
        } else if (kind < 28) {
            ask(kind);
        } else {
            textOrHistory(kind);
        }
    }

    private void change(int kind) {
        switch (kind) {
            case 0: {
                int setting = calm ? TeaBlends.WEEK : about(0, 1);
                set(setting, setting == 1 ? about(1, 7) : random.nextInt(3) > 0 ? about(0, 12) : about(0, 99));
                break;
            }
            case 1:
                leaf(random.nextBoolean() ? about(0, 20) : about(0, 999),
                    random.nextInt(9) == 0 ? random.nextInt() : Due.tastes(taste(), taste(), taste()), about(0, 9999));
                break;
            case 2:
                row();
                break;
            case 3:
            case 4: {
                int leaf = aLeaf();
                int grams = random.nextBoolean() ? about(1, 500) : about(1, 9999);
                due("buy(" + leaf + ", " + grams + ")", shop.buy(leaf, grams), model.buy(leaf, grams));
                break;
            }
            case 5:
            case 6:
                bound();
                break;
            case 7:
            case 8:
            case 9: {
                int leaf = aLeaf();
                int share = random.nextBoolean() ? about(0, 20) : 20 - Math.max(0, model.allShares());
                due("share(" + leaf + ", " + share + ")", shop.share(leaf, share), model.share(leaf, share));
                break;
            }
            case 10:
                due("choose()", shop.choose(), model.choose());
                break;
            case 11:
            case 12: {
                int grams = random.nextBoolean() ? about(1, 200) : about(1, 9999);
                due("mix(" + grams + ")", shop.mix(grams), model.mix(grams));
                break;
            }
            default: {
                int days = random.nextInt(3) > 0 ? about(1, 9) : about(1, 99);
                due("pass(" + days + ")", shop.pass(days), model.pass(days));
            }
        }
    }

    private void set(int setting, int value) {
        due("set(" + setting + ", " + value + ")", shop.set(setting, value), model.set(setting, value));
    }

    private void leaf(int price, int tastes, int stock) {
        due("leaf(" + price + ", " + tastes + ", " + stock + ")", shop.leaf(price, tastes, stock),
            model.leaf(price, tastes & 127, tastes >> 7 & 127, tastes >> 14 & 127, stock));
    }

    private void row() {
        int leaf = aLeaf();
        int[] changes = new int[7];
        long row = 0;
        for (int place = 0; place < 7; place++) {
            changes[place] = random.nextInt(40) == 0 ? random.nextInt(32) - 9 : random.nextInt(19) - 9;
            row += changes[place] + 9L << 5 * place;
        }
        if (random.nextInt(4) == 0) {
            row |= random.nextLong() << 35;
        }
        due("row(" + leaf + ", " + row + ")", shop.row(leaf, row), model.row(leaf, changes));
    }

    private void bound() {
        int taste = about(0, 2);
        int low = random.nextInt(4) > 0 ? about(0, 50) : about(0, 100);
        int high = random.nextInt(4) > 0 ? about(50, 100) : about(Math.max(0, Math.min(low, 99)), 100);
        due("bound(" + taste + ", " + low + ", " + high + ")", shop.bound(taste, low, high),
            model.bound(taste, low, high));
    }

    private void ask(int kind) {
        int leaf = aLeaf();
        int what;
        switch (kind) {
            case 14:
                what = about(0, 6);
                due("of(" + leaf + ", " + what + ")", shop.of(leaf, what), model.of(leaf, what));
                break;
            case 15:
                what = about(0, 5);
                due("blend(" + what + ")", shop.blend(what), model.blend(what));
                break;
            case 16:
                due("why()", shop.why(), model.why(model.current.sharesNow(), 0));
                break;
            case 17:
                for (what = -1; what <= 14; what++) {
                    due("count(" + what + ")", shop.count(what), model.count(what));
                }
                break;
            case 18:
                what = about(0, 2);
                due("taste(" + what + ")", shop.taste(what), model.taste(what));
                break;
            case 19:
                due("mean()", shop.mean(), model.mean());
                break;
            case 20:
            case 21:
                for (what = -1; what <= 6; what++) {
                    due("cheapest(" + what + ")", shop.cheapest(what), model.cheapest(what));
                }
                break;
            case 22:
            case 23:
                for (what = -1; what <= 3; what++) {
                    due("swap(" + what + ")", shop.swap(what), model.swap(what));
                }
                break;
            case 24:
            case 25:
                what = about(0, 5);
                due("looser(" + what + ")", shop.looser(what), model.looser(what));
                break;
            case 26:
                due("keepsFor()", shop.keepsFor(), model.keepsFor());
                break;
            default:
                due("mostGrams()", shop.mostGrams(), model.mostGrams());
        }
    }

    private void textOrHistory(int kind) {
        switch (kind) {
            case 28:
                due("undo()", shop.undo(), model.undo());
                break;
            case 29: {
                int slot = about(0, 1);
                due("save(" + slot + ")", shop.save(slot), model.save(slot));
                break;
            }
            case 30: {
                int slot = about(0, 1);
                due("restore(" + slot + ")", shop.restore(slot), model.restore(slot));
                break;
            }
            case 31:
                if (random.nextInt(3) == 0) {
                    due("wipe()", shop.wipe(), model.wipe());
                }
                due("fault()", shop.fault(), model.fault());
                break;
            default:
                write();
                due("fault()", shop.fault(), model.fault());
                due("carryOut()", shop.carryOut(), model.carryOut());
        }
    }

    private void write() {
        if (model.fault() != model.pad.length() || random.nextInt(8) == 0) {
            due("wipe()", shop.wipe(), model.wipe());
        }
        int orders = 1 + random.nextInt(4);
        for (int i = 0; i < orders; i++) {
            int most = random.nextInt(3) == 0 ? PIECES.length : 17;
            String text = (i > 0 ? ";" : "") + PIECES[random.nextInt(most)];
            for (int at = 0; at < text.length(); at += 8) {
                put(Due.characters(text.substring(at, Math.min(text.length(), at + 8))));
            }
        }
        if (random.nextInt(9) == 0) {
            put(random.nextLong() >> 8 * random.nextInt(8));
        }
    }

    private void put(long characters) {
        due("put(" + characters + ")", shop.put(characters), model.put(characters));
    }

    private void due(String call, long got, long want) {
        DUE.due(run + call, got, want);
    }

    /** The state of a shop, as a value: leaves are replaced, never changed. */
    private static final class State implements Cloneable {
        List<int[]> leaves = new ArrayList<>();
        int[] bounds = {0, 0, 0, 100, 100, 100};
        int[] settings = {10, 7};
        int day;
        long grams;
        long coins;

        State copy() {
            State copy = new State();
            for (int[] leaf : leaves) {
                copy.leaves.add(leaf.clone());
            }
            copy.bounds = bounds.clone();
            copy.settings = settings.clone();
            copy.day = day;
            copy.grams = grams;
            copy.coins = coins;
            return copy;
        }

        int[] sharesNow() {
            int[] shares = new int[5];
            for (int i = 0; i < leaves.size(); i++) {
                shares[i] = leaves.get(i)[Model.SHARE];
            }
            return shares;
        }
    }

    /** The document once more, in its slowest and plainest form. */
    private static final class Model {
        static final int PRICE = 0;
        static final int TASTE = 1;
        static final int STOCK = 4;
        static final int AGE = 5;
        static final int SHARE = 6;
        static final int ROW = 7;
        static final String NUMBER = "(?:0|[1-9][0-9]{0,3})";
        static final String ORDER = "(?:\\+N:N,N,N\\*N|s[0-9]=N|dN|mN)".replace("N", NUMBER);
        static final java.util.regex.Pattern TEXT = java.util.regex.Pattern.compile(ORDER + "(?:;" + ORDER + ")*");

        State current = new State();
        final ArrayDeque<State> history = new ArrayDeque<>();
        final State[] slots = new State[2];
        String pad = "";

        int record(State then) {
            history.addLast(current);
            if (history.size() > 6) {
                history.removeFirst();
            }
            current = then;
            return 0;
        }

        boolean in(long value, long least, long most) {
            return least <= value && value <= most;
        }

        int set(int setting, int value) {
            if (!(setting == 0 && in(value, 0, 99) || setting == 1 && in(value, 1, 7))) {
                return -2;
            }
            State then = current.copy();
            then.settings[setting] = value;
            record(then);
            return history.peekLast().settings[setting];
        }

        int leaf(int price, int strength, int colour, int scent, int stock) {
            State then = current.copy();
            int answer = leaf(then, price, strength, colour, scent, stock);
            return answer < 0 ? answer : answer + record(then);
        }

        int leaf(State state, int price, int strength, int colour, int scent, int stock) {
            boolean right = in(price, 0, 999) && in(strength, 0, 100) && in(colour, 0, 100) && in(scent, 0, 100)
                && in(stock, 0, 9999);
            if (!right) {
                return -2;
            }
            if (state.leaves.size() == 5) {
                return -4;
            }
            state.leaves.add(new int[] {price, strength, colour, scent, stock, 0, 0, 0, 0, 0, 0, 0, 0, 0});
            return state.leaves.size() - 1;
        }

        int row(int leaf, int[] changes) {
            if (!in(leaf, 0, current.leaves.size() - 1)) {
                return -1;
            }
            State then = current.copy();
            for (int place = 0; place < 7; place++) {
                if (!in(changes[place], -9, 9)) {
                    return -2;
                }
                then.leaves.get(leaf)[ROW + place] = changes[place];
            }
            record(then);
            return price(leaf);
        }

        int buy(int leaf, int grams) {
            if (!in(leaf, 0, current.leaves.size() - 1)) {
                return -1;
            }
            if (!in(grams, 1, 9999)) {
                return -2;
            }
            State then = current.copy();
            int[] bought = then.leaves.get(leaf);
            if (bought[STOCK] + grams > 9999) {
                return -5;
            }
            bought[AGE] = bought[STOCK] * bought[AGE] / (bought[STOCK] + grams);
            bought[STOCK] += grams;
            record(then);
            return bought[STOCK];
        }

        int bound(int taste, int low, int high) {
            if (!in(taste, 0, 2)) {
                return -1;
            }
            if (!in(low, 0, 100) || !in(high, low, 100)) {
                return -2;
            }
            State then = current.copy();
            then.bounds[taste] = low;
            then.bounds[taste + 3] = high;
            record(then);
            return 100 * history.peekLast().bounds[taste] + history.peekLast().bounds[taste + 3];
        }

        int share(int leaf, int share) {
            State then = current.copy();
            int answer = share(then, leaf, share);
            return answer < 0 ? answer : answer + record(then);
        }

        int share(State state, int leaf, int share) {
            if (!in(leaf, 0, state.leaves.size() - 1)) {
                return -1;
            }
            if (!in(share, 0, 20)) {
                return -2;
            }
            int[] shares = state.sharesNow();
            shares[leaf] = share;
            if (sum(shares) > 20) {
                return -5;
            }
            state.leaves.get(leaf)[SHARE] = share;
            return sum(shares);
        }

        int choose() {
            int[] best = best();
            if (best == null) {
                return -5;
            }
            State then = current.copy();
            for (int i = 0; i < then.leaves.size(); i++) {
                then.leaves.get(i)[SHARE] = best[i];
            }
            record(then);
            return priceSum(best) / 20;
        }

        int mix(int grams) {
            State before = current;
            current = current.copy();
            int answer = mixHere(grams);
            State then = current;
            current = before;
            return answer < 0 ? answer : answer + record(then);
        }

        int mixHere(int grams) {
            if (!in(grams, 1, 9999)) {
                return -2;
            }
            if (why(current.sharesNow(), 0) != 0) {
                return -5;
            }
            int price = priceSum(current.sharesNow()) / 20;
            State then = current.copy();
            for (int[] leaf : then.leaves) {
                leaf[STOCK] -= (int) Math.ceil(grams * leaf[SHARE] / 20.0);
                if (leaf[STOCK] < 0) {
                    return -5;
                }
            }
            then.grams += grams;
            then.coins += (long) grams * price / 100;
            current = then;
            return price;
        }

        int pass(int days) {
            State then = current.copy();
            int answer = pass(then, days);
            return answer < 0 ? answer : answer + record(then);
        }

        int pass(State state, int days) {
            if (!in(days, 1, 99)) {
                return -2;
            }
            if (state.day + days > 9999) {
                return -5;
            }
            state.day += days;
            for (int[] leaf : state.leaves) {
                leaf[AGE] += days;
            }
            return state.day;
        }

        int price(int leaf) {
            int[] it = current.leaves.get(leaf);
            return Math.max(0, it[PRICE] + it[ROW + current.day % current.settings[1]]);
        }

        int tasteOf(int leaf, int taste, int ahead) {
            int[] it = current.leaves.get(leaf);
            return it[TASTE + taste] * Math.max(0, 1000 - current.settings[0] * (it[AGE] + ahead)) / 1000;
        }

        int sum(int[] shares) {
            return shares[0] + shares[1] + shares[2] + shares[3] + shares[4];
        }

        int allShares() {
            return sum(current.sharesNow());
        }

        int priceSum(int[] shares) {
            int sum = 0;
            for (int i = 0; i < current.leaves.size(); i++) {
                sum += shares[i] * price(i);
            }
            return sum;
        }

        int tasteSum(int[] shares, int taste, int ahead) {
            int sum = 0;
            for (int i = 0; i < current.leaves.size(); i++) {
                sum += shares[i] * tasteOf(i, taste, ahead);
            }
            return sum;
        }

        int why(int[] shares, int ahead) {
            if (sum(shares) != 20) {
                return 1;
            }
            for (int taste = 0; taste < 3; taste++) {
                if (tasteSum(shares, taste, ahead) / 20 < current.bounds[taste]) {
                    return 2 + taste;
                }
            }
            for (int taste = 0; taste < 3; taste++) {
                if (tasteSum(shares, taste, ahead) / 20 > current.bounds[taste + 3]) {
                    return 5 + taste;
                }
            }
            return 0;
        }

        int of(int leaf, int what) {
            if (!in(leaf, 0, current.leaves.size() - 1)) {
                return -1;
            }
            if (!in(what, 0, 6)) {
                return -2;
            }
            int[] answers = current.leaves.get(leaf).clone();
            answers[0] = price(leaf);
            for (int taste = 0; taste < 3; taste++) {
                answers[1 + taste] = tasteOf(leaf, taste, 0);
            }
            return answers[what];
        }

        int blend(int what) {
            int[] shares = current.sharesNow();
            if (what == 0) {
                return priceSum(shares) / 20;
            }
            if (in(what, 1, 3)) {
                return tasteSum(shares, what - 1, 0) / 20;
            }
            if (what == 4) {
                return sum(shares);
            }
            int set = 0;
            for (int i = 0; i < 5; i++) {
                set += shares[i] > 0 ? 1 << i : 0;
            }
            return what == 5 ? set : -2;
        }

        int count(int what) {
            if (in(what, 4, 9)) {
                return current.bounds[what - 4];
            }
            switch (what) {
                case 0: return current.day;
                case 1: return current.leaves.size();
                case 2: return (int) current.grams;
                case 3: return (int) current.coins;
                case 10: return current.settings[0];
                case 11: return current.settings[1];
                case 12: return pad.length();
                case 13: return history.size();
                default: return -2;
            }
        }

        long taste(int taste) {
            double sum = in(taste, 0, 2) ? tasteSum(current.sharesNow(), taste, 0) : 0;
            return Double.doubleToLongBits(sum / 20);
        }

        int mean() {
            return current.grams == 0 ? 0 : Float.floatToIntBits((float) current.coins / (float) current.grams);
        }

        /** Every whole blend, the first shares from the greatest on; only one that is really cheaper is taken. */
        int[] best() {
            int[] best = null;
            int n = current.leaves.size();
            for (int a = n > 0 ? 20 : 0; a >= 0; a--) {
                for (int b = n > 1 ? 20 - a : 0; b >= 0; b--) {
                    for (int c = n > 2 ? 20 - a - b : 0; c >= 0; c--) {
                        for (int d = n > 3 ? 20 - a - b - c : 0; d >= 0; d--) {
                            int e = n > 4 ? 20 - a - b - c - d : 0;
                            int[] shares = {a, b, c, d, e};
                            if (why(shares, 0) == 0 && (best == null || priceSum(shares) < priceSum(best))) {
                                best = shares;
                            }
                        }
                    }
                }
            }
            return best;
        }

        int cheapest(int what) {
            if (!in(what, 0, 5)) {
                return -2;
            }
            int[] best = best();
            return best == null ? -6 : what == 0 ? priceSum(best) / 20 : best[what - 1];
        }

        int swap(int what) {
            if (!in(what, 0, 2)) {
                return -2;
            }
            int[] best = {-6, -6, 0};
            for (int from = 0; from < current.leaves.size(); from++) {
                for (int to = 0; to < current.leaves.size(); to++) {
                    int[] shares = current.sharesNow();
                    shares[from]--;
                    shares[to]++;
                    int less = priceSum(current.sharesNow()) - priceSum(shares);
                    if (shares[from] >= 0 && why(shares, 0) == 0 && less > best[2]) {
                        best = new int[] {from, to, less};
                    }
                }
            }
            return best[0] < 0 ? -6 : best[what];
        }

        int looser(int bound) {
            if (!in(bound, 0, 5)) {
                return -2;
            }
            int[] best = best();
            if (best == null) {
                return -6;
            }
            if (current.bounds[bound] == (bound < 3 ? 0 : 100)) {
                return 0;
            }
            State before = current;
            current = current.copy();
            current.bounds[bound] += bound < 3 ? -1 : 1;
            int less = priceSum(best) - priceSum(best());
            current = before;
            return less;
        }

        int keepsFor() {
            int days = 0;
            while (days <= 400 && why(current.sharesNow(), days) == 0) {
                days++;
            }
            return days > 400 ? -6 : days;
        }

        int mostGrams() {
            if (why(current.sharesNow(), 0) != 0) {
                return 0;
            }
            int grams = 9999;
            for (int[] leaf : current.leaves) {
                while ((int) Math.ceil(grams * leaf[SHARE] / 20.0) > leaf[STOCK]) {
                    grams--;
                }
            }
            return grams;
        }

        int put(long characters) {
            StringBuilder added = new StringBuilder();
            long rest = characters;
            while (rest != 0) {
                long code = rest & 255;
                if (code < 33 || code > 126) {
                    return -2;
                }
                added.insert(0, (char) code);
                rest >>>= 8;
            }
            if (added.length() == 0) {
                return -2;
            }
            if (pad.length() + added.length() > 80) {
                return -4;
            }
            pad += added;
            return pad.length();
        }

        int wipe() {
            int length = pad.length();
            pad = "";
            return length;
        }

        /** The first prefix that no text begins with ends in the fault. */
        int fault() {
            if (TEXT.matcher(pad).matches()) {
                return -6;
            }
            for (int length = 1; length <= pad.length(); length++) {
                java.util.regex.Matcher matcher = TEXT.matcher(pad.substring(0, length));
                if (!matcher.matches() && !matcher.hitEnd()) {
                    return length - 1;
                }
            }
            return pad.length();
        }

        int carryOut() {
            if (fault() != -6) {
                return -3;
            }
            State before = current;
            current = current.copy();
            int done = 0;
            for (String order : pad.split(";")) {
                String[] words = order.substring(1).split("[:,*=]");
                int[] n = new int[5];
                for (int i = 0; i < words.length; i++) {
                    n[i] = Integer.parseInt(words[i]);
                }
                int answer = order.startsWith("+") ? leaf(current, n[0], n[1], n[2], n[3], n[4])
                    : order.startsWith("s") ? share(current, n[0], n[1])
                    : order.startsWith("d") ? pass(current, n[0]) : mixHere(n[0]);
                if (answer < 0) {
                    break;
                }
                done++;
            }
            State then = current;
            current = before;
            record(then);
            pad = "";
            return done;
        }

        int undo() {
            if (history.isEmpty()) {
                return -5;
            }
            current = history.removeLast();
            return history.size();
        }

        int save(int slot) {
            if (!in(slot, 0, 1)) {
                return -2;
            }
            slots[slot] = current.copy();
            return current.leaves.size();
        }

        int restore(int slot) {
            if (!in(slot, 0, 1)) {
                return -2;
            }
            if (slots[slot] == null) {
                return -5;
            }
            record(slots[slot].copy());
            return current.leaves.size();
        }
    }
}
