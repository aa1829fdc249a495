/** Boundary cases of the texts: of the terms, and of the promises 22 to 25, sentence by sentence. */
public final class EdgesOfTextsTest {
    private static final int MILD = Due.tastes(50, 50, 50);
    private static final String DIGITS = "0123456789";
    private static final String MOST_ORDERS = "d1;".repeat(26) + "d9";
    private static final Due DUE = new Due();
    private static final Twins TWINS = new Twins(DUE);

    public static void main(String[] args) {
        charactersOfAPut();
        codesOfCharacters();
        bitsAboveTheEnd();
        padOfEighty();
        wipedPads();
        padsWithoutFault();
        whatCanStandWhere();
        numbersAndDigits();
        textsThatEndTooEarly();
        firstOfSeveralFaults();
        faultsInALongPad();
        padsThatAreNotCarriedOut();
        ordersUpToTheFirstError();
        oneChangeWithAllOrders();
        ordersOfLeaves();
        ordersOfShares();
        ordersOfDays();
        ordersOfMixing();
        mostOrders();
        DUE.end();
    }

    private static TeaBlends with(String pad) {
        TeaBlends x = new TeaBlends();
        Due.write(x, pad);
        return x;
    }

    private static TeaBlends threeLeavesWith(String pad) {
        TeaBlends x = Due.shopOf(MILD, 10, 20, 30);
        Due.write(x, pad);
        return x;
    }

    private static void charactersOfAPut() {
        DUE.by("characters: 1 to 8 characters");
        String eight = "d123;d45";
        for (int length = 1; length <= 8; length++) {
            DUE.due(length + " characters", new TeaBlends().put(Due.characters(eight.substring(0, length))), length);
        }
        TeaBlends x = with("d12;d45");
        DUE.due("the last character is the lowest", x.carryOut(), 2);
        DUE.due("12 and 45 days", x.count(0), 57);
        TWINS.unchangedAnywhere("no character", y -> y.put(0L), TeaBlends.BAD_VALUE);
    }

    private static void codesOfCharacters() {
        DUE.by("BAD_VALUE if [..] a code is not 33 to 126");
        for (int place = 0; place < 8; place++) {
            long others = Due.characters("d1;d1;d1") & ~(255L << 8 * place);
            for (int code = 0; code <= 255; code++) {
                long characters = others | (long) code << 8 * place;
                boolean right = code >= 33 && code <= 126;
                int due = right ? 8 : place == 7 && code == 0 ? 7 : TeaBlends.BAD_VALUE;
                DUE.due("the code " + code + " in the place " + place, new TeaBlends().put(characters), due);
            }
            for (int code : new int[] {32, 127, 128, 255}) {
                long characters = others | (long) code << 8 * place;
                TWINS.unchanged(Twins::busy, code + " in the place " + place, x -> x.put(characters),
                    TeaBlends.BAD_VALUE);
            }
        }
        for (int code = 1; code <= 255; code++) {
            DUE.due("the code " + code + " alone", new TeaBlends().put(code), code >= 33 && code <= 126 ? 1 : -2);
        }
    }

    private static void bitsAboveTheEnd() {
        DUE.by("BAD_VALUE if [..] a bit above 8 bits that are 0 is not 0");
        for (int length = 0; length < 7; length++) {
            long text = Due.characters("d1;d1;d".substring(0, length));
            for (int bit = 8 * length + 8; bit < 64; bit++) {
                long characters = text | 1L << bit;
                DUE.due(length + " characters and the bit " + bit, new TeaBlends().put(characters), -2);
            }
            long more = text | (long) 'd' << 56;
            TWINS.unchanged(Twins::busy, length + " and one far above", x -> x.put(more), TeaBlends.BAD_VALUE);
        }
        TWINS.unchangedAnywhere("the highest bit alone", x -> x.put(Long.MIN_VALUE), TeaBlends.BAD_VALUE);
        TWINS.unchangedAnywhere("all bits", x -> x.put(-1L), TeaBlends.BAD_VALUE);
        TWINS.unchangedAnywhere("all bits but one", x -> x.put(Long.MAX_VALUE), TeaBlends.BAD_VALUE);
    }

    private static void padOfEighty() {
        DUE.by("The pad is a text of at most 80 characters");
        String text = "d1;".repeat(26) + "d1";
        for (int length = 72; length <= 80; length++) {
            String pad = text.substring(0, length);
            for (int more = 1; more <= 8; more++) {
                String added = "12345678".substring(0, more);
                boolean fits = length + more <= 80;
                DUE.due(length + " and " + more, with(pad).put(Due.characters(added)),
                    fits ? length + more : TeaBlends.TOO_MANY);
                if (!fits) {
                    TWINS.unchanged(() -> with(pad), length + " and " + more, x -> x.put(Due.characters(added)),
                        TeaBlends.TOO_MANY);
                }
            }
        }
        TeaBlends x = Twins.full();
        x.wipe();
        DUE.due("an empty pad once more", x.put('d'), 1);
    }

    private static void wipedPads() {
        DUE.by("Empties the pad, and returns the length that it had.");
        TWINS.unchanged(TeaBlends::new, "an empty pad", x -> x.wipe(), 0);
        for (int length = 0; length <= 80; length++) {
            TeaBlends x = with(MOST_ORDERS.substring(0, length));
            DUE.due("of " + length, x.wipe(), length);
            DUE.due("the length then", x.count(12), 0);
            DUE.due("the fault then", x.fault(), 0);
            DUE.due("wiped again", x.wipe(), 0);
            DUE.due("no change", x.undo(), TeaBlends.NOT_POSSIBLE);
            x.put(Due.characters("d7"));
            DUE.due("nothing is left of it", x.carryOut(), 1);
            DUE.due("the orders that came then", x.count(0), 7);
        }
    }

    private static void padsWithoutFault() {
        DUE.by("Returns the fault of the pad, NONE if there is none.");
        String[] right = {"d0", "d9", "m9999", "s0=0", "s9=9999", "+0:0,0,0*0", "+9999:9999,9999,9999*9999",
            MOST_ORDERS};
        for (String pad : right) {
            TWINS.unchanged(() -> with(pad), pad, x -> x.fault(), TeaBlends.NONE);
        }
        TWINS.unchanged(() -> with("d1;"), "d1;", x -> x.fault(), 3);
    }

    /** The characters that can stand behind a text without fault, by the grammar read backwards. */
    private static String canFollow(String text) {
        String order = text.substring(text.lastIndexOf(';') + 1);
        if (order.isEmpty()) {
            return "+sdm";
        }
        String behindNumber = ";";
        if (order.charAt(0) == '+') {
            behindNumber = ":,,*;".substring(order.replaceAll("[^:,*]", "").length()).substring(0, 1);
        }
        if (order.matches("s[0-9]")) {
            return "=";
        }
        String number = order.replaceAll(".*[^0-9]", "");
        boolean isFull = number.equals("0") || number.length() == 4;
        return number.isEmpty() ? DIGITS : isFull ? behindNumber : behindNumber + DIGITS;
    }

    private static void whatCanStandWhere() {
        DUE.by("The fault is the index of the first character that cannot stand at its place when the text is read from"
            + " left to right");
        String[] texts = {"+1234:0,56,789*9;", "+0:1234,2345,0*3456;s0=0;", "s9=9876;d12;m345;", "d0;m0;s5=10;",
            "+9:9999,9999,9999*9999;d9999;"};
        for (String text : texts) {
            for (int length = 0; length < text.length(); length++) {
                String ahead = text.substring(0, length);
                String can = canFollow(ahead);
                DUE.due("the text itself can stand, " + ahead, can.indexOf(text.charAt(length)) >= 0 ? 1 : 0, 1);
                for (char next = 33; next <= 126; next++) {
                    TeaBlends x = with(ahead + next);
                    boolean stands = x.fault() != length;
                    DUE.due(ahead + next + " stands", stands ? 1 : 0, can.indexOf(next) >= 0 ? 1 : 0);
                }
            }
        }
    }

    private static void numbersAndDigits() {
        DUE.by("A digit is 0 to 9, a number 0 to 9999, without leading zeros.");
        for (int digit = 0; digit <= 9; digit++) {
            DUE.due("s" + digit, with("s" + digit + "=1").fault(), TeaBlends.NONE);
        }
        DUE.due("s10", with("s10=1").fault(), 2);
        DUE.due("s01", with("s01=1").fault(), 2);
        for (String number : new String[] {"0", "1", "9", "10", "99", "100", "999", "1000", "9999"}) {
            DUE.due("d" + number, with("d" + number).fault(), TeaBlends.NONE);
            int end = 1 + number.length();
            for (int digit = 0; digit <= 9; digit++) {
                int due = number.equals("0") || number.length() == 4 ? end : TeaBlends.NONE;
                DUE.due("d" + number + digit, with("d" + number + digit).fault(), due);
            }
        }
        for (String number : new String[] {"00", "01", "09", "000", "0000", "00001"}) {
            DUE.due("d" + number, with("d" + number).fault(), 2);
            DUE.due("+" + number + ":1,1,1*1", with("+" + number + ":1,1,1*1").fault(), 2);
            DUE.due("+1:1,1,1*" + number, with("+1:1,1,1*" + number).fault(), 10);
        }
        DUE.by("(also of a digit by which a number would be above 9999)");
        DUE.due("d10000", with("d10000").fault(), 5);
        DUE.due("s1=10000", with("s1=10000").fault(), 7);
        DUE.due("+10000:1,1,1*1", with("+10000:1,1,1*1").fault(), 5);
        DUE.due("+1:10000,1,1*1", with("+1:10000,1,1*1").fault(), 7);
        DUE.due("+1:1,1,1*99990", with("+1:1,1,1*99990").fault(), 13);
        DUE.due("m99999999999", with("m99999999999").fault(), 5);
    }

    private static void textsThatEndTooEarly() {
        DUE.by("if there is none and the text ends too early (also if it is empty), it is the length of the text");
        TWINS.unchanged(TeaBlends::new, "an empty one", x -> x.fault(), 0);
        String text = "+12:3,4,5*6;s7=8;d9;m10;";
        for (int length = 0; length <= text.length(); length++) {
            String ahead = text.substring(0, length);
            boolean isWhole = ahead.matches("(.*;)?(\\+[0-9]+:[0-9]+,[0-9]+,[0-9]+\\*[0-9]+|s[0-9]=[0-9]+|[dm][0-9]+)");
            DUE.due("the text " + ahead, with(ahead).fault(), isWhole ? TeaBlends.NONE : length);
        }
        DUE.due("a full pad that ends too early", with("d1;".repeat(26) + "s1").fault(), 80);
    }

    private static void firstOfSeveralFaults() {
        DUE.by("the first character that cannot stand at its place");
        DUE.due("xx", with("xx").fault(), 0);
        DUE.due("dd;;", with("dd;;").fault(), 1);
        DUE.due("d1;;x", with("d1;;x").fault(), 3);
        DUE.due("d01;d99999;x", with("d01;d99999;x").fault(), 2);
        DUE.due("s5=0;+1:2,,3", with("s5=0;+1:2,,3").fault(), 10);
    }

    private static void faultsInALongPad() {
        DUE.by("The fault is the index of the first character");
        for (int at = 0; at < 80; at++) {
            String pad = MOST_ORDERS.substring(0, at) + "~" + MOST_ORDERS.substring(at + 1);
            DUE.due("a fault at " + at, with(pad).fault(), at);
        }
        DUE.due("none in 80 characters", with(MOST_ORDERS).fault(), TeaBlends.NONE);
    }

    private static void padsThatAreNotCarriedOut() {
        DUE.by("BAD_TEXT if the pad has a fault (then it stays)");
        for (String pad : new String[] {"", "d", "d1;", "d1;d01", "d1;x", "d1;m12345"}) {
            TWINS.unchanged(() -> threeLeavesWith(pad), pad, x -> x.carryOut(), TeaBlends.BAD_TEXT);
        }
        TeaBlends x = with("d1;d");
        x.carryOut();
        x.put('8');
        DUE.due("it stays, and is mended", x.carryOut(), 2);
        DUE.due("1 and 8 days", x.count(0), 9);
    }

    private static void ordersUpToTheFirstError() {
        DUE.by("Carries the orders of the pad out, one after the other, up to the first one that returns an error, and"
            + " empties the pad.");
        for (int wrong = 0; wrong <= 5; wrong++) {
            StringBuilder pad = new StringBuilder();
            for (int i = 0; i < 5; i++) {
                pad.append(i > 0 ? ";" : "").append(i == wrong ? "d100" : "d1");
            }
            TeaBlends x = with(pad.toString());
            DUE.due(pad.toString(), x.carryOut(), wrong);
            DUE.due("the days of " + pad, x.count(0), wrong);
            DUE.due("the pad then", x.count(12), 0);
            DUE.due("a change", x.count(13), 1);
        }
    }

    private static void oneChangeWithAllOrders() {
        DUE.by("This is a change (one, with all of them; also if none is carried out).");
        TeaBlends x = with("+1:2,3,4*5;s0=20;m1;d1");
        DUE.due("four orders", x.carryOut(), 4);
        DUE.due("one change", x.count(13), 1);
        DUE.due("undone", x.undo(), 0);
        DUE.due("no leaf then", x.count(1), 0);
        DUE.due("no day then", x.count(0), 0);
        DUE.due("no grams then", x.count(2), 0);
        DUE.due("the pad stays empty", x.count(12), 0);
        Due.write(x, "d0");
        DUE.due("none", x.carryOut(), 0);
        DUE.due("a change all the same", x.count(13), 1);
        x = Twins.full();
        DUE.due("with a full history", x.carryOut(), 27);
        DUE.due("it stays full", x.undo(), 5);
        DUE.due("all days undone at once", x.count(0), 0);
    }

    private static void order(String order, TeaBlends x, int done) {
        Due.write(x, order);
        DUE.due(order, x.carryOut(), done);
        if (done == 0) {
            x.undo();
        }
    }

    /** Refused as an order: no order is carried out, and nothing but the pad and the history is different. */
    private static void refusedOrder(String order, TeaBlends x, TeaBlends twin) {
        x.wipe();
        Due.write(x, order + ";d1");
        DUE.due(order, x.carryOut(), 0);
        DUE.due(order + ", the pad", x.count(12), 0);
        for (int leaf = 0; leaf < 5; leaf++) {
            for (int what = 0; what <= 6; what++) {
                DUE.due(order + ", of(" + leaf + ", " + what + ")", x.of(leaf, what), twin.of(leaf, what));
            }
        }
        for (int what = 0; what < 12; what++) {
            DUE.due(order + ", count(" + what + ")", x.count(what), twin.count(what));
        }
    }

    private static void refusedByThree(String order) {
        refusedOrder(order, threeLeavesWith(""), threeLeavesWith(""));
    }

    private static void ordersOfLeaves() {
        DUE.by("\"+\": leaf() with a price, three tastes, and a stock");
        TeaBlends x = with("+0:0,0,0*0;+999:100,100,100*9999;+1:99,98,97*96");
        DUE.due("the least and the most", x.carryOut(), 3);
        int[][] due = {{0, 0, 0, 0, 0, 0, 0}, {999, 100, 100, 100, 9999, 0, 0}, {1, 99, 98, 97, 96, 0, 0}};
        for (int leaf = 0; leaf < 3; leaf++) {
            for (int what = 0; what <= 6; what++) {
                DUE.due("of(" + leaf + ", " + what + ")", x.of(leaf, what), due[leaf][what]);
            }
        }
        refusedByThree("+1000:1,1,1*1");
        refusedByThree("+9999:1,1,1*1");
        for (int wrong : new int[] {101, 127, 128, 129, 256, 9999}) {
            refusedByThree("+1:" + wrong + ",1,1*1");
            refusedByThree("+1:1," + wrong + ",1*1");
            refusedByThree("+1:1,1," + wrong + "*1");
        }
        order("+1:1,1,1*1", x, 1);
        order("+1:1,1,1*1", x, 1);
        order("+1:1,1,1*1", x, 0);
        DUE.due("five leaves", x.count(1), 5);
        refusedOrder("+1:1,1,1*1", Twins.full(), Twins.full());
    }

    private static void ordersOfShares() {
        DUE.by("\"s\": share() of a leaf");
        TeaBlends x = threeLeavesWith("s0=20;s0=0;s2=20");
        DUE.due("0 and 20", x.carryOut(), 3);
        DUE.due("the last leaf", x.of(2, 6), 20);
        for (String wrong : new String[] {"s3=0", "s4=0", "s5=0", "s9=0", "s0=21", "s0=9999", "s3=21"}) {
            refusedByThree(wrong);
        }
        order("s0=1", x, 0);
        order("s2=19", x, 1);
        order("s0=1", x, 1);
        DUE.due("20 shares", x.blend(4), 20);
        DUE.due("no leaf at all", with("s0=0").carryOut(), 0);
    }

    private static void ordersOfDays() {
        DUE.by("\"d\": pass() days");
        TeaBlends x = threeLeavesWith("d1;d99");
        DUE.due("1 and 99", x.carryOut(), 2);
        DUE.due("the day", x.count(0), 100);
        DUE.due("the age", x.of(2, 5), 100);
        refusedByThree("d0");
        refusedByThree("d100");
        refusedByThree("d9999");
        Due.days(x, 9800);
        order("d99", x, 1);
        order("d1", x, 0);
        DUE.due("the last day", x.count(0), 9999);
    }

    private static void ordersOfMixing() {
        DUE.by("\"m\": mix() grams");
        TeaBlends x = with("+100:1,1,1*9999;s0=20;m1;m9998");
        DUE.due("1 and 9998", x.carryOut(), 4);
        DUE.due("the stock", x.of(0, 4), 0);
        DUE.due("the coins", x.count(3), 9999);
        order("m1", x, 0);
        x.buy(0, 9999);
        order("m9999", x, 1);
        DUE.due("the grams", x.count(2), 19998);
        refusedByThree("m0");
        refusedByThree("m1");
        refusedByThree("m9999");
        TeaBlends y = threeLeavesWith("");
        y.share(0, 20);
        order("m1000", y, 1);
        order("m1", y, 0);
        DUE.due("its stock", y.of(0, 4), 0);
    }

    private static void mostOrders() {
        DUE.by("Returns how many orders were carried out");
        TeaBlends x = with(MOST_ORDERS);
        DUE.due("27 orders in 80 characters", x.carryOut(), 27);
        DUE.due("their days", x.count(0), 35);
        x = with("d5");
        DUE.due("one order", x.carryOut(), 1);
        DUE.due("an empty pad then", x.carryOut(), TeaBlends.BAD_TEXT);
    }
}
