import java.util.ArrayList;
import java.util.Arrays;
import java.util.List;

/**
 * The document once more, as plainly as can be and with no thought of time or room: what TillFloat answers is held
 * against this one. It shares no code with it and works by other means wherever there are others (tokens for the text,
 * tables of whole rows, every step of a trim).
 */
final class PlainTill {
    static final int NONE = -1;

    static final class Sale {
        final int price;
        final int[] given;
        Sale(int price, int[] given) {
            this.price = price;
            this.given = given;
        }
    }

    static final class State {
        int[] values = {};
        int[] till = {};
        int[] purse = {};
        int[] limit = {};
        int[] bag = {};
        int[] tray = {};
        int[] safe = {};
        List<List<Sale>> days = new ArrayList<>();

        State copy() {
            State s = new State();
            s.values = values.clone();
            s.till = till.clone();
            s.purse = purse.clone();
            s.limit = limit.clone();
            s.bag = bag.clone();
            s.tray = tray.clone();
            s.safe = safe.clone();
            for (List<Sale> day : days) {
                s.days.add(new ArrayList<>(day));
            }
            return s;
        }

        int kinds() {
            return values.length;
        }

        int sales() {
            int n = 0;
            for (List<Sale> day : days) {
                n += day.size();
            }
            return n;
        }
    }

    State s = new State();
    String tape = "";
    final List<State> past = new ArrayList<>();
    final State[] shelves = new State[2];

    // ---- the tape ----

    public int feed(int a, int b, int c, int d, int e) {
        if (tape.length() + 20 > 400) {
            return NONE;
        }
        StringBuilder t = new StringBuilder(tape);
        for (int x : new int[] {a, b, c, d, e}) {
            for (byte y : java.nio.ByteBuffer.allocate(4).putInt(x).array()) {
                t.append((char) (y & 255));
            }
        }
        tape = t.toString();
        return tape.length();
    }

    public int end(int n) {
        if (n < 0 || n > tape.length()) {
            return NONE;
        }
        tape = tape.substring(0, n);
        return n;
    }

    public int tell() {
        String text = tape;
        tape = "";
        State told = new State();
        int fault = new Reading(text, told).fault();
        if (fault != 0) {
            return -2 - fault;
        }
        s = told;
        past.clear();
        return s.kinds();
    }

    /** Cuts the text into tokens first, then goes along them. */
    static final class Reading {
        final List<String> tokens = new ArrayList<>();
        final List<Integer> places = new ArrayList<>();
        final State told;
        int at = 0;

        Reading(String text, State told) {
            this.told = told;
            int i = 0;
            while (i < text.length()) {
                char c = text.charAt(i);
                int j = i + 1;
                if (c == ' ') {
                    i++;
                    continue;
                }
                if (c >= 'a' && c <= 'z') {
                    while (j < text.length() && text.charAt(j) >= 'a' && text.charAt(j) <= 'z') {
                        j++;
                    }
                } else if (c >= '0' && c <= '9') {
                    while (j < text.length() && text.charAt(j) >= '0' && text.charAt(j) <= '9') {
                        j++;
                    }
                }
                tokens.add(text.substring(i, j));
                places.add(i);
                i = j;
            }
            tokens.add("");
            places.add(text.length());
        }

        static final class Fault extends Exception {
            private static final long serialVersionUID = 1;
            final int number;
            Fault(int number) {
                this.number = number;
            }
        }

        int fault() {
            try {
                go();
                return 0;
            } catch (Fault f) {
                return f.number;
            }
        }

        Fault wrong(int token, int what) {
            return new Fault(8 * places.get(token) + what);
        }

        boolean isNumber() {
            return !tokens.get(at).isEmpty() && Character.isDigit(tokens.get(at).charAt(0)) && tokens.get(at).charAt(0) < 128;
        }

        long number() throws Fault {
            if (!isNumber()) {
                throw wrong(at, 1);
            }
            java.math.BigInteger n = new java.math.BigInteger(tokens.get(at));
            at++;
            return n.bitLength() > 40 ? Long.MAX_VALUE : n.longValue();
        }

        void expect(String token) throws Fault {
            if (!tokens.get(at).equals(token)) {
                throw wrong(at, 1);
            }
            at++;
        }

        void go() throws Fault {
            expect("kinds");
            List<Integer> values = new ArrayList<>();
            do {
                long n = number();
                int last = values.isEmpty() ? 0 : values.get(values.size() - 1);
                if (n < 1 || n > 500 || n <= last) {
                    throw wrong(at - 1, 2);
                }
                if (values.size() == 8) {
                    throw wrong(at - 1, 3);
                }
                values.add((int) n);
            } while (isNumber());
            int kinds = values.size();
            told.values = values.stream().mapToInt(x -> x).toArray();
            told.till = new int[kinds];
            told.purse = new int[kinds];
            told.limit = new int[kinds];
            Arrays.fill(told.limit, 99);
            told.bag = new int[kinds];
            Arrays.fill(told.bag, 10);
            told.tray = new int[kinds];
            told.safe = new int[kinds];
            List<String> rows = new ArrayList<>();
            while (!tokens.get(at).isEmpty()) {
                expect(";");
                String word = tokens.get(at);
                at++;
                switch (word) {
                    case "float":
                    case "purse":
                    case "limit":
                    case "bag":
                        if (rows.contains(word)) {
                            throw wrong(at - 1, 3);
                        }
                        rows.add(word);
                        row(word);
                        break;
                    case "day":
                        if (told.days.size() == 5) {
                            throw wrong(at - 1, 3);
                        }
                        told.days.add(new ArrayList<>());
                        break;
                    case "sale":
                        if (told.days.isEmpty()) {
                            throw wrong(at - 1, 1);
                        }
                        if (told.sales() == 40) {
                            throw wrong(at - 1, 3);
                        }
                        sale();
                        break;
                    default:
                        throw wrong(at - 1, 1);
                }
            }
        }

        void row(String word) throws Fault {
            int[] row = word.equals("float") ? told.till : word.equals("purse") ? told.purse : word.equals("limit") ? told.limit : told.bag;
            for (int k = 0; k < row.length; k++) {
                long n = number();
                if (n > 99 || word.equals("bag") && n == 0) {
                    throw wrong(at - 1, 2);
                }
                row[k] = (int) n;
            }
        }

        void sale() throws Fault {
            long price = number();
            if (price < 1 || price > 1000) {
                throw wrong(at - 1, 2);
            }
            expect(":");
            int[] given = new int[told.kinds()];
            int pieces = 0;
            long worth = 0;
            do {
                long value = number();
                int kind = -1;
                for (int k = 0; k < told.kinds(); k++) {
                    if (told.values[k] == value) {
                        kind = k;
                    }
                }
                if (kind < 0) {
                    throw wrong(at - 1, 2);
                }
                pieces++;
                if (pieces == 6) {
                    throw wrong(at - 1, 3);
                }
                given[kind]++;
                worth += value;
            } while (isNumber());
            if (worth < price) {
                throw wrong(at - 1, 4);
            }
            told.days.get(told.days.size() - 1).add(new Sale((int) price, given));
        }
    }

    // ---- acts ----

    boolean kindThere(int kind) {
        return kind >= 0 && kind < s.kinds();
    }

    boolean dayThere(int day) {
        return day >= 0 && day < s.days.size();
    }

    void act() {
        past.add(s.copy());
        if (past.size() > 10) {
            past.remove(0);
        }
    }

    public int put(int row, int kind, int n) {
        if (row < 0 || row > 3 || !kindThere(kind) || n < 0 || n > 99 || row == 3 && n == 0) {
            return NONE;
        }
        int was = new int[][] {s.till, s.purse, s.limit, s.bag}[row][kind];
        if (was == n) {
            return -2;
        }
        act();
        new int[][] {s.till, s.purse, s.limit, s.bag}[row][kind] = n;
        return was;
    }

    public int hand(int kind) {
        if (!kindThere(kind)) {
            return NONE;
        }
        if (s.purse[kind] == 0) {
            return -2;
        }
        if (sum(s.tray) == 5) {
            return -3;
        }
        act();
        s.purse[kind]--;
        s.tray[kind]++;
        return sum(s.tray);
    }

    public int pay(int price) {
        if (price < 1 || price > 1000) {
            return NONE;
        }
        if (worth(s.tray) < price) {
            return -2;
        }
        int[] all = plus(s.till, s.tray, 1);
        int[] change = changeFor(worth(s.tray) - price, all, s.kinds());
        if (change == null) {
            return -3;
        }
        int[] till = plus(all, change, -1);
        int[] purse = plus(s.purse, change, 1);
        if (full(till) || full(purse)) {
            return -4;
        }
        act();
        s.till = till;
        s.purse = purse;
        s.tray = new int[s.kinds()];
        return sum(change);
    }

    public int sell(int price) {
        if (price < 1 || price > 1000) {
            return NONE;
        }
        int[] row = settling(price);
        if (row == null) {
            return -2;
        }
        int[] till = plus(s.till, row, 1);
        int[] purse = plus(s.purse, row, -1);
        if (full(till) || full(purse)) {
            return -3;
        }
        act();
        s.till = till;
        s.purse = purse;
        return sumOfSizes(row);
    }

    public int live(int day) {
        if (!dayThere(day)) {
            return NONE;
        }
        act();
        Lived l = lived(day, s.till);
        s.till = l.till;
        return l.shorts.size();
    }

    public int bank() {
        if (s.kinds() == 0) {
            return NONE;
        }
        int[] out = new int[s.kinds()];
        for (int k = 0; k < s.kinds(); k++) {
            out[k] = s.till[k] > s.limit[k] ? s.till[k] - s.limit[k] : 0;
        }
        if (sum(out) == 0) {
            return -2;
        }
        act();
        s.till = plus(s.till, out, -1);
        s.safe = plus(s.safe, out, 1);
        return sum(out);
    }

    public int order(int kind, int bags) {
        if (!kindThere(kind) || bags < 1 || bags > 9) {
            return NONE;
        }
        if (s.till[kind] + bags * s.bag[kind] > 99) {
            return -2;
        }
        act();
        s.till[kind] += bags * s.bag[kind];
        return s.till[kind];
    }

    public int drawn(int seed, int n) {
        if (s.kinds() == 0 || n < 1 || n > 10) {
            return NONE;
        }
        if (s.days.size() == 5 || s.sales() + n > 40) {
            return -2;
        }
        act();
        List<Sale> day = new ArrayList<>();
        int x = seed;
        int top = s.values[s.kinds() - 1];
        for (int i = 0; i < n; i++) {
            x = x * 1103515245 + 12345;
            int price = (x >>> 16) % (2 * top) + 1;
            int[] given = new int[s.kinds()];
            for (int k = 0; k < s.kinds() && sum(given) == 0; k++) {
                if (s.values[k] >= price) {
                    given[k] = 1;
                }
            }
            if (sum(given) == 0) {
                given[s.kinds() - 1] = (int) Math.ceil(price / (double) top);
            }
            day.add(new Sale(price, given));
        }
        s.days.add(day);
        return s.days.size();
    }

    public int undo() {
        if (past.isEmpty()) {
            return NONE;
        }
        s = past.remove(past.size() - 1);
        return past.size();
    }

    public int keep(int shelf) {
        if (shelf != 0 && shelf != 1) {
            return NONE;
        }
        shelves[shelf] = s.copy();
        return s.kinds();
    }

    public int back(int shelf) {
        if (shelf != 0 && shelf != 1) {
            return NONE;
        }
        if (shelves[shelf] == null) {
            return -2;
        }
        s = shelves[shelf].copy();
        past.clear();
        return s.kinds();
    }

    // ---- rows ----

    static int sum(int[] row) {
        return Arrays.stream(row).sum();
    }

    static int sumOfSizes(int[] row) {
        return Arrays.stream(row).map(Math::abs).sum();
    }

    static boolean full(int[] row) {
        return Arrays.stream(row).anyMatch(n -> n >= 100);
    }

    static int[] plus(int[] a, int[] b, int times) {
        int[] c = a.clone();
        for (int k = 0; k < c.length; k++) {
            c[k] += b[k] * times;
        }
        return c;
    }

    int worth(int[] row) {
        int worth = 0;
        for (int k = 0; k < s.kinds(); k++) {
            worth += row[k] * s.values[k];
        }
        return worth;
    }

    /** Every sum between low and high with its best row, kind by kind; null where there is none. */
    static int[][] bestRows(int[] values, int kinds, int[] give, int[] returned, int low, int high) {
        int[][] rows = new int[high - low + 1][];
        rows[-low] = new int[values.length];
        for (int k = 0; k < kinds; k++) {
            int[][] next = new int[high - low + 1][];
            int[] nextPieces = new int[high - low + 1];
            int[] nextOwn = new int[high - low + 1];
            int[] nextFrom = new int[high - low + 1];
            Arrays.fill(nextPieces, Integer.MAX_VALUE);
            for (int i = 0; i < rows.length; i++) {
                if (rows[i] == null) {
                    continue;
                }
                int pieces = sumOfSizes(rows[i]);
                for (int x = -returned[k]; x <= give[k]; x++) {
                    int j = i + x * values[k];
                    if (j < 0 || j >= next.length) {
                        continue;
                    }
                    int all = pieces + Math.abs(x);
                    if (all < nextPieces[j] || all == nextPieces[j] && x > nextOwn[j]) {
                        nextPieces[j] = all;
                        nextOwn[j] = x;
                        nextFrom[j] = i;
                    }
                }
            }
            for (int j = 0; j < next.length; j++) {
                if (nextPieces[j] < Integer.MAX_VALUE) {
                    next[j] = rows[nextFrom[j]].clone();
                    next[j][k] = nextOwn[j];
                }
            }
            rows = next;
        }
        return rows;
    }

    int[] changeFor(int amount, int[] stock, int kinds) {
        return bestRows(s.values, kinds, stock, new int[s.kinds()], 0, amount)[amount];
    }

    int[] settling(int price) {
        return bestRows(s.values, s.kinds(), s.purse, s.till, -2000, 2000)[price + 2000];
    }

    // ---- what there is ----

    public int kind(int kind, int what) {
        if (!kindThere(kind) || what < 0 || what > 6) {
            return NONE;
        }
        return new int[][] {s.values, s.till, s.purse, s.limit, s.bag, s.tray, s.safe}[what][kind];
    }

    public int total(int what) {
        if (what < 0 || what > 4) {
            return NONE;
        }
        return worth(new int[][] {s.till, s.purse, s.safe, s.tray, s.limit}[what]);
    }

    public int count(int what) {
        int more = 0;
        int less = 0;
        for (int k = 0; k < s.kinds(); k++) {
            more += s.till[k] > s.limit[k] ? 1 << k : 0;
            less += s.till[k] < s.limit[k] ? 1 << k : 0;
        }
        int kept = (shelves[0] == null ? 0 : 1) + (shelves[1] == null ? 0 : 2);
        int[] all = {s.kinds(), s.days.size(), s.sales(), sum(s.till), sum(s.tray), past.size(), tape.length(), kept, more, less};
        return what < 0 || what >= all.length ? NONE : all[what];
    }

    public int sale(int day, int k, int what) {
        if (!dayThere(day) || k < 0 || k >= s.days.get(day).size()) {
            return NONE;
        }
        Sale sale = s.days.get(day).get(k);
        if (what == 0) {
            return sale.price;
        }
        if (what == 1) {
            return worth(sale.given);
        }
        if (what == 2) {
            return sum(sale.given);
        }
        return what >= 10 && what < 10 + s.kinds() ? sale.given[what - 10] : NONE;
    }

    String text() {
        if (s.kinds() == 0) {
            return "";
        }
        StringBuilder t = new StringBuilder("kinds" + numbers(s.values) + ";float" + numbers(s.till) + ";purse" + numbers(s.purse)
                + ";limit" + numbers(s.limit) + ";bag" + numbers(s.bag));
        for (List<Sale> day : s.days) {
            t.append(";day");
            for (Sale sale : day) {
                t.append(";sale ").append(sale.price).append(":");
                List<String> pieces = new ArrayList<>();
                for (int k = 0; k < s.kinds(); k++) {
                    for (int i = 0; i < sale.given[k]; i++) {
                        pieces.add("" + s.values[k]);
                    }
                }
                t.append(String.join(" ", pieces));
            }
        }
        return t.toString();
    }

    static String numbers(int[] row) {
        StringBuilder t = new StringBuilder();
        for (int n : row) {
            t.append(" ").append(n);
        }
        return t.toString();
    }

    public int letter(int k) {
        if (k < -1) {
            return NONE;
        }
        String text = text();
        return k == -1 ? text.length() : k < text.length() ? text.charAt(k) : -2;
    }

    // ---- change ----

    boolean amount(int amount) {
        return amount >= 0 && amount <= 2500;
    }

    public int change(int amount) {
        if (!amount(amount)) {
            return NONE;
        }
        int[] row = changeFor(amount, s.till, s.kinds());
        return row == null ? -2 : sum(row);
    }

    public int piece(int amount, int kind) {
        if (!amount(amount) || !kindThere(kind)) {
            return NONE;
        }
        int[] row = changeFor(amount, s.till, s.kinds());
        return row == null ? -2 : row[kind];
    }

    public int settle(int price, int kind) {
        if (price < 1 || price > 1000 || kind != NONE && !kindThere(kind)) {
            return -1000;
        }
        int[] row = settling(price);
        return row == null ? -100 : kind == NONE ? sumOfSizes(row) : row[kind];
    }

    public long ways(int amount) {
        if (!amount(amount)) {
            return NONE;
        }
        long[] ways = new long[amount + 1];
        ways[0] = 1;
        for (int k = 0; k < s.kinds(); k++) {
            long[] next = new long[amount + 1];
            for (int a = 0; a <= amount; a++) {
                for (int n = 0; n <= s.till[k] && n * s.values[k] <= a; n++) {
                    next[a] += ways[a - n * s.values[k]];
                }
            }
            ways = next;
        }
        return ways[amount];
    }

    boolean[] reached(int[] stock) {
        boolean[] there = new boolean[2501];
        there[0] = true;
        for (int k = 0; k < s.kinds(); k++) {
            for (int n = 0; n < stock[k]; n++) {
                for (int a = 2500; a >= s.values[k]; a--) {
                    there[a] |= there[a - s.values[k]];
                }
            }
        }
        return there;
    }

    int gaps(int[] stock) {
        int n = 0;
        for (boolean there : reached(stock)) {
            n += there ? 0 : 1;
        }
        return n;
    }

    public int gap(int what) {
        if (what == 1) {
            return gaps(s.till);
        }
        if (what != 0) {
            return NONE;
        }
        boolean[] there = reached(s.till);
        for (int a = 0; a <= 2500; a++) {
            if (!there[a]) {
                return a;
            }
        }
        return -2;
    }

    public int scarce(int what) {
        if (what != 0 && what != 1) {
            return NONE;
        }
        int best = gaps(s.till);
        int which = -2;
        for (int k = 0; k < s.kinds(); k++) {
            if (s.till[k] < 99) {
                int[] more = s.till.clone();
                more[k]++;
                if (gaps(more) < best) {
                    best = gaps(more);
                    which = k;
                }
            }
        }
        return which == -2 ? -2 : what == 0 ? which : best;
    }

    public int dearest(int what) {
        if (what != 0 && what != 1) {
            return NONE;
        }
        int[][] rows = bestRows(s.values, s.kinds(), s.till, new int[s.kinds()], 0, 2500);
        int most = -1;
        int amount = -1;
        for (int a = 0; a <= 2500; a++) {
            if (rows[a] != null && sum(rows[a]) > most) {
                most = sum(rows[a]);
                amount = a;
            }
        }
        return what == 0 ? most : amount;
    }

    public long share() {
        int[][] rows = bestRows(s.values, s.kinds(), s.till, new int[s.kinds()], 0, 2500);
        int pieces = 0;
        int amounts = 0;
        for (int[] row : rows) {
            if (row != null) {
                pieces += sum(row);
                amounts++;
            }
        }
        return Double.doubleToLongBits((double) pieces / amounts);
    }

    public int greedy(int what) {
        if (what != 0 && what != 1) {
            return NONE;
        }
        int[][] rows = bestRows(s.values, s.kinds(), s.till, new int[s.kinds()], 0, 2500);
        List<Integer> missed = new ArrayList<>();
        for (int a = 0; a <= 2500; a++) {
            if (rows[a] == null) {
                continue;
            }
            int left = a;
            int pieces = 0;
            for (int k = s.kinds() - 1; k >= 0; k--) {
                for (int n = 0; n < s.till[k] && s.values[k] <= left; n++) {
                    left -= s.values[k];
                    pieces++;
                }
            }
            if (left > 0 || pieces > sum(rows[a])) {
                missed.add(a);
            }
        }
        return what == 1 ? missed.size() : missed.isEmpty() ? -2 : missed.get(0);
    }

    public int pays(int price, int kind) {
        if (price < 1 || price > 1000 || kind != NONE && !kindThere(kind)) {
            return NONE;
        }
        int[] row = changeFor(price, s.purse, s.kinds());
        return row == null ? -2 : kind == NONE ? sum(row) : row[kind];
    }

    public int swap(int kind, int n) {
        if (!kindThere(kind) || n < 1 || n > 99 || n * s.values[kind] > 2500) {
            return NONE;
        }
        int[] row = changeFor(n * s.values[kind], s.till, kind);
        return row == null ? -2 : s.purse[kind] < n ? -3 : sum(row);
    }

    public int even(int amount, int times) {
        if (!amount(amount) || times < 0 || times > 20) {
            return NONE;
        }
        int[] till = s.till.clone();
        for (int i = 0; i < times; i++) {
            int[] row = changeFor(amount, till, s.kinds());
            if (row == null) {
                return -2;
            }
            till = plus(till, row, -1);
        }
        int[] row = changeFor(amount, till, s.kinds());
        return row == null ? -2 : sum(row);
    }

    // ---- days ----

    static final class Lived {
        int[] till;
        final List<Integer> shorts = new ArrayList<>();
        int pieces = 0;
        final List<int[]> tills = new ArrayList<>();
    }

    Lived lived(int day, int[] from) {
        Lived l = new Lived();
        l.till = from.clone();
        l.tills.add(l.till);
        for (int i = 0; i < s.days.get(day).size(); i++) {
            Sale sale = s.days.get(day).get(i);
            int[] all = plus(l.till, sale.given, 1);
            int[] change = changeFor(worth(sale.given) - sale.price, all, s.kinds());
            if (change == null || full(plus(all, change, -1))) {
                l.shorts.add(i);
            } else {
                l.till = plus(all, change, -1);
                l.pieces += sum(change);
            }
            l.tills.add(l.till);
        }
        return l;
    }

    public int day(int day, int what) {
        if (!dayThere(day) || what < 0 || what > 5) {
            return NONE;
        }
        Lived l = lived(day, s.till);
        switch (what) {
            case 0:
                return s.days.get(day).size();
            case 1:
                return s.days.get(day).stream().mapToInt(x -> x.price).sum();
            case 2:
                return l.shorts.size();
            case 3:
                return l.pieces;
            case 4:
                return l.shorts.isEmpty() ? -2 : l.shorts.get(0);
            default:
                for (int k = 0; k < s.kinds(); k++) {
                    if (l.till[k] == 0) {
                        return k;
                    }
                }
                return -2;
        }
    }

    public int behind(int day, int times, int kind) {
        if (!dayThere(day) || times < 1 || times > 20 || !kindThere(kind)) {
            return NONE;
        }
        int[] till = s.till;
        for (int i = 0; i < times; i++) {
            till = lived(day, till).till;
        }
        return till[kind];
    }

    public int lasts(int day) {
        if (!dayThere(day)) {
            return NONE;
        }
        int[] till = s.till;
        for (int i = 0; i < 50; i++) {
            Lived l = lived(day, till);
            if (!l.shorts.isEmpty()) {
                return i;
            }
            till = l.till;
        }
        return 50;
    }

    public int trim(int day, int kind) {
        if (!dayThere(day) || kind != NONE && !kindThere(kind)) {
            return NONE;
        }
        int now = lived(day, s.till).shorts.size();
        int[] till = s.till.clone();
        for (int k = s.kinds() - 1; k >= 0; k--) {
            while (till[k] > 0) {
                int[] less = till.clone();
                less[k]--;
                if (lived(day, less).shorts.size() > now) {
                    break;
                }
                till = less;
            }
        }
        return kind == NONE ? worth(till) : till[kind];
    }

    public int worst(int what) {
        if (what < 0 || what > 2) {
            return NONE;
        }
        int[] best = {-2, -2, -2};
        for (int d = 0; d < s.days.size(); d++) {
            Lived l = lived(d, s.till);
            if (l.shorts.size() > best[1] || l.shorts.size() == best[1] && l.pieces > best[2]) {
                best = new int[] {d, l.shorts.size(), l.pieces};
            }
        }
        return best[what];
    }

    public int bags(int kind) {
        if (!kindThere(kind)) {
            return NONE;
        }
        int bags = 0;
        while (s.till[kind] + bags * s.bag[kind] < s.limit[kind]) {
            bags++;
        }
        return bags;
    }

    public long mean(int day) {
        if (!dayThere(day)) {
            return NONE;
        }
        Lived l = lived(day, s.till);
        int sales = s.days.get(day).size() - l.shorts.size();
        return Double.doubleToLongBits(sales == 0 ? 0.0 : (double) l.pieces / sales);
    }

    public int needs(int day, int kind) {
        if (!dayThere(day) || kind != NONE && !kindThere(kind)) {
            return NONE;
        }
        for (int number = 0; number <= 4; number++) {
            int[] row = needed(day, new int[s.kinds()], 0, number);
            if (row != null) {
                return kind == NONE ? number : row[kind];
            }
        }
        return -2;
    }

    int[] needed(int day, int[] row, int kind, int left) {
        if (kind == s.kinds()) {
            if (left > 0) {
                return null;
            }
            int[] till = s.till.clone();
            for (int k = 0; k < s.kinds(); k++) {
                till[k] += row[k] * s.bag[k];
            }
            return !full(till) && lived(day, till).shorts.isEmpty() ? row : null;
        }
        for (int n = 0; n <= left; n++) {
            int[] next = row.clone();
            next[kind] = n;
            int[] found = needed(day, next, kind + 1, left - n);
            if (found != null) {
                return found;
            }
        }
        return null;
    }

    public int flow(int day, int kind) {
        if (!dayThere(day) || !kindThere(kind)) {
            return NONE;
        }
        return lived(day, s.till).tills.stream().mapToInt(t -> t[kind]).min().getAsInt();
    }

    public int gone(int day, int what) {
        if (!dayThere(day) || what != 0 && what != 1) {
            return NONE;
        }
        List<int[]> tills = lived(day, s.till).tills;
        for (int i = 0; i + 1 < tills.size(); i++) {
            for (int k = 0; k < s.kinds(); k++) {
                if (tills.get(i)[k] > 0 && tills.get(i + 1)[k] == 0) {
                    return what == 0 ? i : k;
                }
            }
        }
        return -2;
    }
}
