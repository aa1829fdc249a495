/** Compares answers with those that are due, and packs the arguments that the class takes as bits. */
final class Due {
    private int right = 0;
    private int wrong = 0;
    private String words = "";

    /** The words of the document by which the answers that follow are due. */
    void by(String sentence) {
        words = sentence + " | ";
    }

    void due(String call, long got, long want) {
        if (got == want) {
            right++;
        } else {
            wrong++;
            System.out.println(words + call + " answered " + got + ", due is " + want);
        }
    }

    /** Ends the program with exit code 1 if an answer was wrong. */
    void end() {
        System.out.println(right + " answers are as due, " + wrong + " are not");
        if (wrong > 0 || right == 0) {
            System.exit(1);
        }
    }

    static int tastes(int strength, int colour, int scent) {
        return strength | colour << 7 | scent << 14;
    }

    static long row(int... changes) {
        long row = 0;
        for (int place = 0; place < 7; place++) {
            long change = place < changes.length ? changes[place] : 0;
            row |= change + 9 << 5 * place;
        }
        return row;
    }

    static long characters(String text) {
        long characters = 0;
        for (int i = 0; i < text.length(); i++) {
            characters = characters << 8 | text.charAt(i);
        }
        return characters;
    }

    /** Puts a text of any length on the pad; what the last put answered. */
    static int write(TeaBlends shop, String text) {
        int answer = shop.count(12);
        for (int i = 0; i < text.length(); i += 8) {
            answer = shop.put(characters(text.substring(i, Math.min(text.length(), i + 8))));
        }
        return answer;
    }

    /** Passes so many days, of which a call takes 99 at most. */
    static void days(TeaBlends shop, int days) {
        for (int left = days; left > 0; left -= 99) {
            shop.pass(Math.min(left, 99));
        }
    }

    /** A shop with leaves of these prices, all with the same tastes and a stock of 1000. */
    static TeaBlends shopOf(int tastes, int... prices) {
        TeaBlends shop = new TeaBlends();
        for (int price : prices) {
            shop.leaf(price, tastes, 1000);
        }
        return shop;
    }
}
