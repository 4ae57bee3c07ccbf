import java.util.List;
import java.util.Random;
import java.util.TreeSet;

/** Texts for tests: drawn ones, spoiled ones, and how they come onto a tape. */
final class Texts {
    private Texts() {
    }

    /** Feeds a text and cuts the tape behind it. */
    static void feed(TillFloat x, String text) {
        for (int i = 0; i < text.length(); i += 20) {
            x.feed(four(text, i), four(text, i + 4), four(text, i + 8), four(text, i + 12), four(text, i + 16));
        }
        x.end(text.length());
    }

    static TillFloat till(String text) {
        TillFloat x = new TillFloat();
        feed(x, text);
        x.tell();
        return x;
    }

    /** The same for both, from an empty tape; how many calls. */
    static int feed(TillFloat x, PlainTill y, String text, List<String> told) {
        x.end(0);
        y.end(0);
        told.add("text " + text);
        for (int i = 0; i < text.length(); i += 20) {
            x.feed(four(text, i), four(text, i + 4), four(text, i + 8), four(text, i + 12), four(text, i + 16));
            y.feed(four(text, i), four(text, i + 4), four(text, i + 8), four(text, i + 12), four(text, i + 16));
        }
        x.end(text.length());
        y.end(text.length());
        return 3 + text.length() / 20;
    }

    private static int four(String text, int at) {
        int n = 0;
        for (int i = at; i < at + 4; i++) {
            n = n << 8 | (i < text.length() ? text.charAt(i) & 255 : 0);
        }
        return n;
    }

    private static final int[][] COINS = {
        {1, 2, 5, 10, 20, 50, 100, 200}, {1, 5, 10, 25, 50, 100}, {1, 3, 4}, {2, 5}, {5, 10, 20, 50, 100, 200, 500}, {1, 7, 10, 22, 53}, {3, 5, 9, 14}
    };

    /** A text that is right; size 0 to 3 tells how much there is of everything. */
    static String draw(Random r, int size) {
        StringBuilder t = new StringBuilder();
        TreeSet<Integer> values = new TreeSet<>();
        if (r.nextInt(3) > 0) {
            int[] coins = COINS[r.nextInt(COINS.length)];
            int kinds = 1 + r.nextInt(coins.length);
            for (int i = 0; i < kinds; i++) {
                values.add(coins[r.nextInt(4) == 0 ? r.nextInt(coins.length) : i]);
            }
        } else {
            int kinds = 1 + r.nextInt(size == 0 ? 3 : 8);
            for (int i = 0; i < kinds; i++) {
                values.add(1 + r.nextInt(r.nextInt(3) == 0 ? 500 : 40));
            }
        }
        int[] worth = values.stream().mapToInt(x -> x).toArray();
        t.append("kinds");
        for (int v : worth) {
            t.append(blanks(r)).append(' ').append(v);
        }
        int[] most = {3, 6, 20, 100};
        if (r.nextInt(8) > 0) {
            row(r, t, "float", worth.length, 0, most[size]);
        }
        if (r.nextInt(3) > 0) {
            row(r, t, "purse", worth.length, 0, most[size]);
        }
        if (r.nextInt(2) > 0) {
            row(r, t, "limit", worth.length, 0, 2 * most[size]);
        }
        if (r.nextInt(2) > 0) {
            row(r, t, "bag", worth.length, 1, most[size]);
        }
        int days = r.nextInt(4);
        for (int d = 0; d < days && t.length() < 370; d++) {
            t.append(";day");
            int sales = r.nextInt(7);
            for (int i = 0; i < sales && t.length() < 360; i++) {
                sale(r, t, worth);
            }
        }
        String text = t.toString();
        return text.length() <= 400 ? text : text.substring(0, text.lastIndexOf(';', 400));
    }

    private static void row(Random r, StringBuilder t, String word, int kinds, int least, int most) {
        t.append(blanks(r)).append(';').append(blanks(r)).append(word);
        boolean full = most == 100 && r.nextInt(3) == 0;
        for (int k = 0; k < kinds; k++) {
            t.append(' ').append(blanks(r)).append(full && r.nextInt(3) > 0 ? 97 + r.nextInt(3) : Math.min(99, least + r.nextInt(most)));
        }
    }

    private static void sale(Random r, StringBuilder t, int[] worth) {
        int pieces = 1 + r.nextInt(r.nextInt(3) == 0 ? 5 : 2);
        StringBuilder given = new StringBuilder();
        int sum = 0;
        for (int i = 0; i < pieces; i++) {
            int v = worth[r.nextInt(worth.length)];
            sum += v;
            given.append(i == 0 ? "" : " ").append(v);
        }
        t.append(";sale ").append(1 + r.nextInt(Math.min(1000, sum))).append(blanks(r)).append(':').append(blanks(r)).append(given);
    }

    /**
     * A till in which some kinds are so full that sales are short for it, several kinds at once too, and the least one
     * so low that a sale that is no longer short may leave others short.
     */
    static String drawFull(Random r) {
        int[] coins = {1, 5, 10, 20, 50};
        int kinds = 3 + r.nextInt(3);
        int full = r.nextInt(1 << kinds) & ~1;
        StringBuilder t = new StringBuilder("kinds");
        for (int k = 0; k < kinds; k++) {
            t.append(' ').append(coins[k]);
        }
        t.append(";float");
        for (int k = 0; k < kinds; k++) {
            t.append(' ').append((full >> k & 1) == 1 ? 99 - r.nextInt(4) / 2 : k == 0 ? 3 + r.nextInt(8) : r.nextInt(4) / 3);
        }
        t.append(";day");
        int sales = 2 + r.nextInt(5);
        for (int i = 0; i < sales; i++) {
            int given = r.nextInt(3) == 0 ? r.nextInt(1 << kinds) : r.nextInt(3) == 0 ? full : ~full;
            int one = 1 + r.nextInt(kinds - 1);
            int sum = 0;
            StringBuilder pieces = new StringBuilder();
            for (int k = 1; k < kinds; k++) {
                if ((given >> k & 1) == 1 && (given != ~full || k == one)) {
                    sum += coins[k];
                    pieces.append(' ').append(coins[k]);
                }
            }
            if (sum > 0) {
                t.append(";sale ").append(sum - r.nextInt(5)).append(':').append(pieces);
            }
        }
        return t.toString();
    }

    private static String blanks(Random r) {
        return r.nextInt(12) == 0 ? " ".repeat(r.nextInt(3)) : "";
    }

    /** The text with some bytes or words gone, new or told again. */
    static String spoil(Random r, String text) {
        String[] bits = {
            ";", ":", " ", "0", "1", "9", "99", "100", "500", "501", "1000", "1001", "a", "kinds", "float", ";float 1", ";purse", ";limit 99", ";bag 0",
            ";day", ";day;day;day;day;day", ";sale 1:1", "sale", ";sale 5:1 1 1 1 1 1", ";sale 1000:1", "00", "000000000000000000001", "99999999999999999999",
            "\u0000", "\u00ff", "A", "\t", "\n", "/", "{", "`", "<", "4294967297", ";;", "::", "1 2 3 4 5 6 7 8 9"
        };
        String t = text;
        int times = 1 + r.nextInt(2);
        for (int i = 0; i < times; i++) {
            int at = r.nextInt(t.length() + 1);
            int gone = r.nextInt(3) == 0 ? 0 : Math.min(t.length() - at, r.nextInt(4));
            String bit = r.nextInt(3) == 0 ? "" : bits[r.nextInt(bits.length)];
            t = t.substring(0, at) + bit + t.substring(at + gone);
        }
        return t.length() <= 400 ? t : t.substring(0, 400);
    }
}
