/** A till's float: pieces of some kinds, change and settling by the fewest pieces, days of sales. */
public final class TillFloat {
    public static final int NONE = -1;

    private static final int MOST_KINDS = 8;
    private static final int MOST_VALUE = 500;
    private static final int MOST_DAYS = 5;
    private static final int MOST_SALES = 40;
    private static final int MOST_PRICE = 1000;
    private static final int MOST_GIVEN = 5;
    private static final int MOST_AMOUNT = 2500;
    private static final int MOST_SETTLED = 2000;
    private static final int MOST_ACTS = 10;
    private static final int MOST_NEEDED = 4;
    private static final int MOST_LIVES = 50;
    private static final int TAPE_SIZE = 400;
    private static final int FULL = 100;
    private static final int SHELVES = 2;
    /** What is answered where NONE is not: the refusals behind it, in their order. */
    private static final int SECOND = -2;
    private static final int THIRD = -3;
    private static final int FOURTH = -4;
    private static final int UNSETTLED = -100;
    private static final int UNASKED = -1000;

    private final State now = new State();
    private final Reader reader = new Reader();
    private final int[] tape = reader.tape;
    private int taped;
    private final State[] past = new State[MOST_ACTS];
    private int pastNext;
    private int acts;
    private final State[] shelved = new State[SHELVES];
    private int keptBits;
    private final Life life = new Life();
    private final Changer changer = life.changer;
    private final Fewest fewest = changer.fewest;
    private final Reach reach = new Reach();
    private final long[] rows = new long[MOST_AMOUNT + 1];
    private final int[] tried = new int[MOST_KINDS];
    private final int[] settled = new int[MOST_KINDS];
    private final int[] bagged = new int[MOST_KINDS];
    private final Scribe scribe = new Scribe();

    public TillFloat() {
        for (int i = 0; i < MOST_ACTS; i++) {
            past[i] = new State();
        }
        for (int i = 0; i < SHELVES; i++) {
            shelved[i] = new State();
        }
    }

    // ---- the tape ----

    public int feed(int a, int b, int c, int d, int e) {
        if (taped + 20 > TAPE_SIZE) {
            return NONE;
        }
        feedNumber(a);
        feedNumber(b);
        feedNumber(c);
        feedNumber(d);
        feedNumber(e);
        return taped;
    }

    private void feedNumber(int number) {
        for (int shift = 24; shift >= 0 && taped >= 0 && taped < TAPE_SIZE; shift -= 8) {
            tape[taped] = (number >>> shift) & 255;
            taped++;
        }
    }

    public int end(int n) {
        if (n < 0 || n > taped) {
            return NONE;
        }
        taped = n;
        return n;
    }

    public int tell() {
        int fault = reader.read(taped);
        taped = 0;
        if (fault != 0) {
            return -2 - fault;
        }
        now.copyFrom(reader.draft);
        acts = 0;
        return now.kinds;
    }

    // ---- acts ----

    public int put(int row, int kind, int n) {
        if (row < 0 || row > 3 || !hasKind(kind) || n < (row == 3 ? 1 : 0) || n >= FULL) {
            return NONE;
        }
        int[] pieces = now.rowOf(row);
        int was = pieces[kind];
        if (was == n) {
            return SECOND;
        }
        remember();
        pieces[kind] = n;
        return was;
    }

    public int hand(int kind) {
        if (!hasKind(kind)) {
            return NONE;
        }
        if (now.purse[kind] < 1) {
            return SECOND;
        }
        if (now.piecesOf(now.tray) >= MOST_GIVEN) {
            return THIRD;
        }
        remember();
        now.purse[kind]--;
        now.tray[kind]++;
        return now.piecesOf(now.tray);
    }

    public int pay(int price) {
        if (!isPrice(price)) {
            return NONE;
        }
        int above = now.worthOf(now.tray) - price;
        if (above < 0) {
            return SECOND;
        }
        for (int k = 0; k < now.kinds; k++) {
            tried[k] = now.till[k] + now.tray[k];
        }
        int pieces = changer.take(now, tried, above);
        if (pieces < 0) {
            return THIRD;
        }
        for (int k = 0; k < now.kinds; k++) {
            int out = changer.row[k];
            if (tried[k] - out >= FULL || now.purse[k] + out >= FULL) {
                return FOURTH;
            }
        }
        remember();
        for (int k = 0; k < now.kinds; k++) {
            now.till[k] = tried[k] - changer.row[k];
            now.purse[k] += changer.row[k];
            now.tray[k] = 0;
        }
        return pieces;
    }

    public int sell(int price) {
        if (!isPrice(price)) {
            return NONE;
        }
        int pieces = findSettling(price);
        if (pieces < 0) {
            return SECOND;
        }
        for (int k = 0; k < now.kinds; k++) {
            if (now.till[k] + settled[k] >= FULL || now.purse[k] - settled[k] >= FULL) {
                return THIRD;
            }
        }
        remember();
        for (int k = 0; k < now.kinds; k++) {
            now.till[k] += settled[k];
            now.purse[k] -= settled[k];
        }
        return pieces;
    }

    public int live(int day) {
        if (!hasDay(day)) {
            return NONE;
        }
        remember();
        life.liveFrom(now.till, now, day);
        copyRow(life.till, now.till);
        return life.shorts;
    }

    public int bank() {
        if (now.kinds == 0) {
            return NONE;
        }
        int above = 0;
        for (int k = 0; k < now.kinds; k++) {
            above += Math.max(0, now.till[k] - now.limits[k]);
        }
        if (above == 0) {
            return SECOND;
        }
        remember();
        for (int k = 0; k < now.kinds; k++) {
            int out = Math.max(0, now.till[k] - now.limits[k]);
            now.till[k] -= out;
            now.safe[k] += out;
        }
        return above;
    }

    public int order(int kind, int bags) {
        if (!hasKind(kind) || bags < 1 || bags > 9) {
            return NONE;
        }
        int then = now.till[kind] + bags * now.bagSizes[kind];
        if (then >= FULL) {
            return SECOND;
        }
        remember();
        now.till[kind] = then;
        return then;
    }

    public int drawn(int seed, int n) {
        if (now.kinds == 0 || n < 1 || n > 10) {
            return NONE;
        }
        if (now.days >= MOST_DAYS || now.allSales() + n > MOST_SALES) {
            return SECOND;
        }
        remember();
        now.addDay();
        int most = 2 * now.values[now.kinds - 1];
        int x = seed;
        for (int i = 0; i < n && most > 0; i++) {
            x = x * 1103515245 + 12345;
            addDrawnSale((x >>> 16) % most + 1);
        }
        return now.days;
    }

    private void addDrawnSale(int price) {
        int sale = now.openSale(price);
        if (sale < 0) {
            return;
        }
        int kind = 0;
        while (kind < now.kinds - 1 && now.values[kind] < price) {
            kind++;
        }
        int value = now.values[kind];
        int worth = 0;
        for (int i = 0; i < MOST_GIVEN && worth < price; i++) {
            now.addGiven(sale, kind);
            worth += value;
        }
        now.closeSale();
    }

    // ---- undone, kept ----

    private void remember() {
        past[pastNext].copyFrom(now);
        pastNext = (pastNext + 1) % MOST_ACTS;
        acts = Math.min(acts + 1, MOST_ACTS);
    }

    public int undo() {
        if (acts == 0) {
            return NONE;
        }
        pastNext = (pastNext + MOST_ACTS - 1) % MOST_ACTS;
        now.copyFrom(past[pastNext]);
        acts--;
        return acts;
    }

    public int keep(int shelf) {
        if (shelf < 0 || shelf >= SHELVES) {
            return NONE;
        }
        shelved[shelf].copyFrom(now);
        keptBits |= 1 << shelf;
        return now.kinds;
    }

    public int back(int shelf) {
        if (shelf < 0 || shelf >= SHELVES) {
            return NONE;
        }
        if ((keptBits >> shelf & 1) == 0) {
            return SECOND;
        }
        now.copyFrom(shelved[shelf]);
        acts = 0;
        return now.kinds;
    }

    // ---- what there is ----

    public int kind(int kind, int what) {
        if (!hasKind(kind)) {
            return NONE;
        }
        switch (what) {
            case 0: return now.values[kind];
            case 1: return now.till[kind];
            case 2: return now.purse[kind];
            case 3: return now.limits[kind];
            case 4: return now.bagSizes[kind];
            case 5: return now.tray[kind];
            case 6: return now.safe[kind];
            default: return NONE;
        }
    }

    public int total(int what) {
        switch (what) {
            case 0: return now.worthOf(now.till);
            case 1: return now.worthOf(now.purse);
            case 2: return now.worthOf(now.safe);
            case 3: return now.worthOf(now.tray);
            case 4: return now.worthOf(now.limits);
            default: return NONE;
        }
    }

    public int count(int what) {
        switch (what) {
            case 0: return now.kinds;
            case 1: return now.days;
            case 2: return now.allSales();
            case 3: return now.piecesOf(now.till);
            case 4: return now.piecesOf(now.tray);
            case 5: return acts;
            case 6: return taped;
            case 7: return keptBits;
            case 8: return kindsBeyondLimit(1);
            case 9: return kindsBeyondLimit(-1);
            default: return NONE;
        }
    }

    private int kindsBeyondLimit(int side) {
        int bits = 0;
        for (int k = 0; k < now.kinds; k++) {
            if ((now.till[k] - now.limits[k]) * side > 0) {
                bits |= 1 << k;
            }
        }
        return bits;
    }

    public int sale(int day, int k, int what) {
        if (!hasDay(day) || k < 0 || k >= now.salesOf(day)) {
            return NONE;
        }
        int sale = now.firstSale(day) + k;
        if (what >= 10 && hasKind(what - 10)) {
            return now.givenOf(sale, what - 10);
        }
        switch (what) {
            case 0: return now.priceOf(sale);
            case 1: return now.givenWorth(sale);
            case 2: return now.givenPieces(sale);
            default: return NONE;
        }
    }

    public int letter(int k) {
        if (k < NONE) {
            return NONE;
        }
        scribe.write(now, k);
        if (k == NONE) {
            return scribe.written;
        }
        return k < scribe.written ? scribe.found : SECOND;
    }

    // ---- change ----

    public int change(int amount) {
        if (!isAmount(amount)) {
            return NONE;
        }
        int pieces = changer.take(now, now.till, amount);
        return pieces < 0 ? SECOND : pieces;
    }

    public int piece(int amount, int kind) {
        if (!isAmount(amount) || !hasKind(kind)) {
            return NONE;
        }
        return changer.take(now, now.till, amount) < 0 ? SECOND : changer.row[kind];
    }

    public int pays(int price, int kind) {
        if (!isPrice(price) || !isKindOrNone(kind)) {
            return NONE;
        }
        int pieces = changer.take(now, now.purse, price);
        if (pieces < 0) {
            return SECOND;
        }
        return kind == NONE ? pieces : changer.row[kind];
    }

    public int swap(int kind, int n) {
        if (!hasKind(kind) || n < 1 || n >= FULL || n * now.values[kind] > MOST_AMOUNT) {
            return NONE;
        }
        fewest.layChange(now, now.till, kind, n * now.values[kind]);
        int pieces = fewest.read(n * now.values[kind], tried);
        if (pieces < 0) {
            return SECOND;
        }
        return now.purse[kind] < n ? THIRD : pieces;
    }

    public int even(int amount, int times) {
        if (!isAmount(amount) || times < 0 || times > 20) {
            return NONE;
        }
        copyRow(now.till, tried);
        int pieces = changer.take(now, tried, amount);
        for (int i = 0; i < times && pieces >= 0; i++) {
            for (int k = 0; k < now.kinds; k++) {
                tried[k] -= changer.row[k];
            }
            pieces = changer.take(now, tried, amount);
        }
        return pieces < 0 ? SECOND : pieces;
    }

    public long ways(int amount) {
        if (!isAmount(amount)) {
            return NONE;
        }
        for (int a = 1; a <= amount; a++) {
            rows[a] = 0;
        }
        rows[0] = 1;
        for (int k = 0; k < now.kinds; k++) {
            countRows(now.values[k], now.till[k], amount);
        }
        return rows[amount];
    }

    /** Rows with any number of the kind first, then less those with more than there are. */
    private void countRows(int value, int there, int amount) {
        if (value < 1 || there < 0) {
            return;
        }
        for (int a = value; a <= amount; a++) {
            rows[a] += rows[a - value];
        }
        int beyond = (there + 1) * value;
        for (int a = amount; a >= beyond; a--) {
            rows[a] -= rows[a - beyond];
        }
    }

    // ---- all amounts ----

    public int gap(int what) {
        if (what < 0 || what > 1) {
            return NONE;
        }
        reach.spread(now, now.till);
        return what == 0 ? reach.leastMissing() : reach.missing();
    }

    public int scarce(int what) {
        if (what < 0 || what > 1) {
            return NONE;
        }
        reach.spread(now, now.till);
        int fewestGaps = reach.missing();
        int which = SECOND;
        copyRow(now.till, tried);
        for (int k = 0; k < now.kinds; k++) {
            if (tried[k] >= FULL - 1) {
                continue;
            }
            tried[k]++;
            reach.spread(now, tried);
            tried[k]--;
            if (reach.missing() < fewestGaps) {
                fewestGaps = reach.missing();
                which = k;
            }
        }
        return what == 0 || which < 0 ? which : fewestGaps;
    }

    public int dearest(int what) {
        if (what < 0 || what > 1) {
            return NONE;
        }
        fewest.layChange(now, now.till, now.kinds, MOST_AMOUNT);
        int most = 0;
        int amount = 0;
        for (int a = 0; a <= MOST_AMOUNT; a++) {
            int pieces = fewest.piecesFor(a);
            if (pieces > most) {
                most = pieces;
                amount = a;
            }
        }
        return what == 0 ? most : amount;
    }

    public long share() {
        fewest.layChange(now, now.till, now.kinds, MOST_AMOUNT);
        long pieces = 0;
        long amounts = 0;
        for (int a = 0; a <= MOST_AMOUNT; a++) {
            int some = fewest.piecesFor(a);
            if (some >= 0) {
                pieces += some;
                amounts++;
            }
        }
        return bitsOfQuotient(pieces, amounts);
    }

    public int greedy(int what) {
        if (what < 0 || what > 1) {
            return NONE;
        }
        fewest.layChange(now, now.till, now.kinds, MOST_AMOUNT);
        int least = SECOND;
        int number = 0;
        for (int a = 0; a <= MOST_AMOUNT; a++) {
            int pieces = fewest.piecesFor(a);
            if (pieces >= 0 && pieces != greedyPieces(a)) {
                least = number == 0 ? a : least;
                number++;
            }
        }
        return what == 0 ? least : number;
    }

    private int greedyPieces(int amount) {
        int left = amount;
        int pieces = 0;
        for (int k = now.kinds - 1; k >= 0; k--) {
            int value = now.values[k];
            if (value < 1) {
                continue;
            }
            int some = Math.min(now.till[k], left / value);
            left -= some * value;
            pieces += some;
        }
        return left == 0 ? pieces : NONE;
    }

    // ---- settling ----

    public int settle(int price, int kind) {
        if (!isPrice(price) || !isKindOrNone(kind)) {
            return UNASKED;
        }
        int pieces = findSettling(price);
        if (pieces < 0) {
            return UNSETTLED;
        }
        return kind == NONE ? pieces : settled[kind];
    }

    private int findSettling(int price) {
        fewest.laySettling(now);
        return fewest.read(price, settled);
    }

    // ---- days ----

    public int day(int day, int what) {
        if (!hasDay(day) || what < 0 || what > 5) {
            return NONE;
        }
        if (what == 0) {
            return now.salesOf(day);
        }
        if (what == 1) {
            return now.pricesOf(day);
        }
        life.liveFrom(now.till, now, day);
        switch (what) {
            case 2: return life.shorts;
            case 3: return life.pieces;
            case 4: return life.firstShort;
            default: return firstEmpty(life.till);
        }
    }

    private int firstEmpty(int[] row) {
        for (int k = 0; k < now.kinds; k++) {
            if (row[k] == 0) {
                return k;
            }
        }
        return SECOND;
    }

    public int behind(int day, int times, int kind) {
        if (!hasDay(day) || times < 1 || times > 20 || !hasKind(kind)) {
            return NONE;
        }
        life.liveFrom(now.till, now, day);
        for (int i = 1; i < times; i++) {
            life.liveFrom(life.till, now, day);
        }
        return life.till[kind];
    }

    public int lasts(int day) {
        if (!hasDay(day)) {
            return NONE;
        }
        life.liveFrom(now.till, now, day);
        int times = 0;
        while (times < MOST_LIVES && life.shorts == 0) {
            times++;
            life.liveFrom(life.till, now, day);
        }
        return times;
    }

    public int worst(int what) {
        if (what < 0 || what > 2) {
            return NONE;
        }
        int which = SECOND;
        int shorts = SECOND;
        int pieces = SECOND;
        for (int d = 0; d < now.days; d++) {
            life.liveFrom(now.till, now, d);
            if (life.shorts > shorts || life.shorts == shorts && life.pieces > pieces) {
                which = d;
                shorts = life.shorts;
                pieces = life.pieces;
            }
        }
        return what == 0 ? which : what == 1 ? shorts : pieces;
    }

    public long mean(int day) {
        if (!hasDay(day)) {
            return NONE;
        }
        life.liveFrom(now.till, now, day);
        return bitsOfQuotient(life.pieces, now.salesOf(day) - life.shorts);
    }

    public int flow(int day, int kind) {
        if (!hasDay(day) || !hasKind(kind)) {
            return NONE;
        }
        life.liveFrom(now.till, now, day);
        return life.least[kind];
    }

    public int gone(int day, int what) {
        if (!hasDay(day) || what < 0 || what > 1) {
            return NONE;
        }
        life.liveFrom(now.till, now, day);
        return what == 0 ? life.goneSale : life.goneKind;
    }

    /**
     * Spare pieces go at once: piece by piece would come to the same. What is spare of a kind holds only for the row
     * the day was lived from, as with fewer of another kind a sale may be short for this one alone; so the day is lived
     * anew for each kind and behind each step.
     */
    public int trim(int day, int kind) {
        if (!hasDay(day) || !isKindOrNone(kind)) {
            return NONE;
        }
        life.liveFrom(now.till, now, day);
        int allowed = life.shorts;
        copyRow(now.till, tried);
        for (int k = now.kinds - 1; k >= 0; k--) {
            life.liveFrom(tried, now, day);
            for (int i = 0; i < FULL && life.shorts <= allowed && tried[k] > 0; i++) {
                tried[k] -= life.spare[k];
                if (tried[k] > 0) {
                    tried[k]--;
                    life.liveFrom(tried, now, day);
                }
            }
            if (life.shorts > allowed) {
                tried[k]++;
            }
        }
        return kind == NONE ? now.worthOf(tried) : tried[kind];
    }

    public int bags(int kind) {
        if (!hasKind(kind)) {
            return NONE;
        }
        int lack = now.limits[kind] - now.till[kind];
        int size = now.bagSizes[kind];
        return lack <= 0 || size < 1 ? 0 : (lack + size - 1) / size;
    }

    public int needs(int day, int kind) {
        if (!hasDay(day) || !isKindOrNone(kind)) {
            return NONE;
        }
        int number = 0;
        startBags(0);
        for (int i = 0; i < 1000000 && number <= MOST_NEEDED; i++) {
            if (hasRoomForBags() && life.isLivedWhole(tried, now, day)) {
                return kind == NONE ? number : bagged[kind];
            }
            if (!nextBags()) {
                number++;
                startBags(number);
            }
        }
        return SECOND;
    }

    /** The least row of so many bags: all of the last kind. */
    private void startBags(int number) {
        for (int k = 0; k < MOST_KINDS; k++) {
            bagged[k] = k == now.kinds - 1 ? number : 0;
        }
    }

    private boolean hasRoomForBags() {
        for (int k = 0; k < now.kinds; k++) {
            tried[k] = now.till[k] + bagged[k] * now.bagSizes[k];
            if (tried[k] >= FULL) {
                return false;
            }
        }
        return true;
    }

    /** The next greater row of as many bags: the last kind that has some hands one to the kind ahead, the rest to the last. */
    private boolean nextBags() {
        int last = now.kinds - 1;
        while (last > 0 && bagged[last] == 0) {
            last--;
        }
        if (last <= 0) {
            return false;
        }
        int some = bagged[last];
        bagged[last] = 0;
        bagged[last - 1]++;
        bagged[now.kinds - 1] = some - 1;
        return true;
    }

    // ---- what is asked about ----

    private boolean hasKind(int kind) {
        return kind >= 0 && kind < now.kinds;
    }

    private boolean isKindOrNone(int kind) {
        return kind == NONE || hasKind(kind);
    }

    private boolean hasDay(int day) {
        return day >= 0 && day < now.days;
    }

    private static boolean isPrice(int price) {
        return price >= 1 && price <= MOST_PRICE;
    }

    private static boolean isAmount(int amount) {
        return amount >= 0 && amount <= MOST_AMOUNT;
    }

    private static void copyRow(int[] from, int[] to) {
        System.arraycopy(from, 0, to, 0, Math.min(from.length, to.length));
    }

    /** The bits of the double next to a / b, by long division; 0 where b is. */
    private static long bitsOfQuotient(long a, long b) {
        if (a <= 0 || b <= 0) {
            return 0;
        }
        long rest = a;
        long by = b;
        int power = 0;
        for (int i = 0; i < 64 && rest < by; i++) {
            rest <<= 1;
            power--;
        }
        for (int i = 0; i < 64 && rest - by >= by; i++) {
            by <<= 1;
            power++;
        }
        long digits = 0;
        for (int i = 0; i < 53; i++) {
            digits <<= 1;
            if (rest >= by) {
                digits++;
                rest -= by;
            }
            rest <<= 1;
        }
        if (rest > by || rest == by && (digits & 1) == 1) {
            digits++;
        }
        return ((long) (power + 1022) << 52) + digits;
    }

    /** All that a shelf keeps. */
    private static final class State {
        int kinds;
        int days;
        final int[] values = new int[MOST_KINDS];
        final int[] till = new int[MOST_KINDS];
        final int[] purse = new int[MOST_KINDS];
        final int[] limits = new int[MOST_KINDS];
        final int[] bagSizes = new int[MOST_KINDS];
        final int[] tray = new int[MOST_KINDS];
        final int[] safe = new int[MOST_KINDS];
        final int[] dayEnds = new int[MOST_DAYS];
        final int[] prices = new int[MOST_SALES];
        final int[] given = new int[MOST_SALES * MOST_KINDS];

        void clear() {
            kinds = 0;
            days = 0;
            for (int k = 0; k < MOST_KINDS; k++) {
                values[k] = 0;
                till[k] = 0;
                purse[k] = 0;
                limits[k] = 99;
                bagSizes[k] = 10;
                tray[k] = 0;
                safe[k] = 0;
            }
        }

        void copyFrom(State other) {
            kinds = other.kinds;
            days = other.days;
            copyRow(other.values, values);
            copyRow(other.till, till);
            copyRow(other.purse, purse);
            copyRow(other.limits, limits);
            copyRow(other.bagSizes, bagSizes);
            copyRow(other.tray, tray);
            copyRow(other.safe, safe);
            copyRow(other.dayEnds, dayEnds);
            copyRow(other.prices, prices);
            copyRow(other.given, given);
        }

        int[] rowOf(int row) {
            switch (row) {
                case 0: return till;
                case 1: return purse;
                case 2: return limits;
                default: return bagSizes;
            }
        }

        int piecesOf(int[] row) {
            int pieces = 0;
            for (int k = 0; k < kinds; k++) {
                pieces += row[k];
            }
            return pieces;
        }

        int worthOf(int[] row) {
            int worth = 0;
            for (int k = 0; k < kinds; k++) {
                worth += row[k] * values[k];
            }
            return worth;
        }

        int kindWorth(int value) {
            for (int k = 0; k < kinds; k++) {
                if (values[k] == value) {
                    return k;
                }
            }
            return NONE;
        }

        int firstSale(int day) {
            return day < 1 || day > MOST_DAYS ? 0 : dayEnds[day - 1];
        }

        int salesOf(int day) {
            return day < 0 || day >= days ? 0 : dayEnds[day] - firstSale(day);
        }

        int allSales() {
            return firstSale(days);
        }

        int priceOf(int sale) {
            return sale < 0 || sale >= MOST_SALES ? 0 : prices[sale];
        }

        int givenOf(int sale, int kind) {
            int i = sale * MOST_KINDS + kind;
            return i < 0 || i >= given.length ? 0 : given[i];
        }

        int pricesOf(int day) {
            int sum = 0;
            int first = firstSale(day);
            int sales = salesOf(day);
            for (int i = 0; i < sales; i++) {
                sum += priceOf(first + i);
            }
            return sum;
        }

        int givenPieces(int sale) {
            int pieces = 0;
            for (int k = 0; k < kinds; k++) {
                pieces += givenOf(sale, k);
            }
            return pieces;
        }

        int givenWorth(int sale) {
            int worth = 0;
            for (int k = 0; k < kinds; k++) {
                worth += givenOf(sale, k) * values[k];
            }
            return worth;
        }

        void addDay() {
            int sales = allSales();
            if (days >= 0 && days < MOST_DAYS) {
                dayEnds[days] = sales;
                days++;
            }
        }

        /** Writes a price behind the sales there are; the sale counts once it is closed. */
        int openSale(int price) {
            int sale = allSales();
            if (sale < 0 || sale >= MOST_SALES) {
                return NONE;
            }
            prices[sale] = price;
            for (int k = 0; k < MOST_KINDS; k++) {
                given[sale * MOST_KINDS + k] = 0;
            }
            return sale;
        }

        void addGiven(int sale, int kind) {
            int i = sale * MOST_KINDS + kind;
            if (i >= 0 && i < given.length) {
                given[i]++;
            }
        }

        void closeSale() {
            if (days >= 1 && days <= MOST_DAYS) {
                dayEnds[days - 1]++;
            }
        }
    }

    /** Reads a text into a draft, as far as its first fault. */
    private static final class Reader {
        private static final int END = -1;
        private static final int ODD = 1;
        private static final int NOT_AS_TOLD = 2;
        private static final int TOO_MANY = 3;
        private static final int TOO_LITTLE = 4;
        private static final int BEYOND = 10000;

        final State draft = new State();
        final int[] tape = new int[TAPE_SIZE];
        private int length;
        private int at;
        private int began;
        private int number;
        private int toldRows;
        private int fault;

        /** The fault of what is on the tape, or 0. */
        int read(int taped) {
            length = Math.min(taped, tape.length);
            at = 0;
            toldRows = 0;
            fault = 0;
            draft.clear();
            boolean goesOn = readKinds();
            for (int i = 0; i <= TAPE_SIZE && goesOn && next() != END; i++) {
                goesOn = readPart();
            }
            return fault;
        }

        private boolean wrong(int place, int what) {
            fault = 8 * place + what;
            return false;
        }

        private int byteAt(int place) {
            return place >= 0 && place < length ? tape[place] : END;
        }

        /** The byte behind the blanks. */
        private int next() {
            while (at < length && tape[at] == ' ') {
                at++;
            }
            return at < length ? tape[at] : END;
        }

        private static boolean isDigit(int b) {
            return b >= '0' && b <= '9';
        }

        private static boolean isLetter(int b) {
            return b >= 'a' && b <= 'z';
        }

        private boolean readWord() {
            if (!isLetter(next())) {
                return wrong(at, ODD);
            }
            began = at;
            while (at < length && isLetter(tape[at])) {
                at++;
            }
            return true;
        }

        private boolean spells(String word) {
            if (at - began != word.length()) {
                return false;
            }
            for (int i = 0; i < word.length(); i++) {
                if (byteAt(began + i) != word.charAt(i)) {
                    return false;
                }
            }
            return true;
        }

        private boolean readNumber() {
            if (!isDigit(next())) {
                return wrong(at, ODD);
            }
            began = at;
            number = 0;
            while (at < length && isDigit(tape[at])) {
                number = Math.min(number * 10 + tape[at] - '0', BEYOND);
                at++;
            }
            return true;
        }

        private boolean readBounded(int low, int high) {
            if (!readNumber()) {
                return false;
            }
            return number >= low && number <= high || wrong(began, NOT_AS_TOLD);
        }

        private boolean readKinds() {
            if (!readWord()) {
                return false;
            }
            if (!spells("kinds")) {
                return wrong(began, ODD);
            }
            int last = 0;
            for (int i = 0; i <= MOST_KINDS; i++) {
                if (!readBounded(last + 1, MOST_VALUE)) {
                    return false;
                }
                if (i >= MOST_KINDS) {
                    return wrong(began, TOO_MANY);
                }
                last = number;
                draft.values[i] = number;
                draft.kinds = i + 1;
                if (!isDigit(next())) {
                    return true;
                }
            }
            return true;
        }

        private boolean readPart() {
            if (next() != ';') {
                return wrong(at, ODD);
            }
            at++;
            if (!readWord()) {
                return false;
            }
            if (spells("float")) {
                return readRow(0, 0);
            }
            if (spells("purse")) {
                return readRow(1, 0);
            }
            if (spells("limit")) {
                return readRow(2, 0);
            }
            if (spells("bag")) {
                return readRow(3, 1);
            }
            if (spells("day")) {
                return readDay();
            }
            if (spells("sale")) {
                return readSale();
            }
            return wrong(began, ODD);
        }

        private boolean readRow(int row, int least) {
            if ((toldRows >> row & 1) == 1) {
                return wrong(began, TOO_MANY);
            }
            toldRows |= 1 << row;
            int[] pieces = draft.rowOf(row);
            for (int k = 0; k < draft.kinds; k++) {
                if (!readBounded(least, FULL - 1)) {
                    return false;
                }
                pieces[k] = number;
            }
            return true;
        }

        private boolean readDay() {
            if (draft.days >= MOST_DAYS) {
                return wrong(began, TOO_MANY);
            }
            draft.addDay();
            return true;
        }

        private boolean readSale() {
            if (draft.days == 0) {
                return wrong(began, ODD);
            }
            if (draft.allSales() >= MOST_SALES) {
                return wrong(began, TOO_MANY);
            }
            if (!readBounded(1, MOST_PRICE)) {
                return false;
            }
            int price = number;
            if (next() != ':') {
                return wrong(at, ODD);
            }
            at++;
            return readGiven(price);
        }

        private boolean readGiven(int price) {
            int sale = draft.openSale(price);
            int worth = 0;
            for (int i = 0; i <= MOST_GIVEN; i++) {
                if (!readNumber()) {
                    return false;
                }
                int kind = draft.kindWorth(number);
                if (kind < 0) {
                    return wrong(began, NOT_AS_TOLD);
                }
                if (i >= MOST_GIVEN) {
                    return wrong(began, TOO_MANY);
                }
                draft.addGiven(sale, kind);
                worth += number;
                if (!isDigit(next())) {
                    break;
                }
            }
            if (worth < price) {
                return wrong(began, TOO_LITTLE);
            }
            draft.closeSale();
            return true;
        }
    }

    /** Counts the bytes of a till's text and finds one of them. */
    private static final class Scribe {
        int written;
        int found;
        private int wanted;

        void write(State s, int place) {
            written = 0;
            found = 0;
            wanted = place;
            if (s.kinds == 0) {
                return;
            }
            writeRow("kinds", s, s.values);
            writeRow(";float", s, s.till);
            writeRow(";purse", s, s.purse);
            writeRow(";limit", s, s.limits);
            writeRow(";bag", s, s.bagSizes);
            for (int d = 0; d < s.days; d++) {
                writeText(";day");
                int first = s.firstSale(d);
                int sales = s.salesOf(d);
                for (int i = 0; i < sales; i++) {
                    writeSale(s, first + i);
                }
            }
        }

        private void writeByte(int b) {
            if (written == wanted) {
                found = b;
            }
            written++;
        }

        private void writeText(String text) {
            for (int i = 0; i < text.length(); i++) {
                writeByte(text.charAt(i));
            }
        }

        private void writeNumber(int number) {
            for (int unit = 1000; unit > 0; unit /= 10) {
                if (number >= unit || unit == 1) {
                    writeByte('0' + number / unit % 10);
                }
            }
        }

        private void writeRow(String word, State s, int[] row) {
            writeText(word);
            for (int k = 0; k < s.kinds; k++) {
                writeByte(' ');
                writeNumber(row[k]);
            }
        }

        private void writeSale(State s, int sale) {
            writeText(";sale ");
            writeNumber(s.priceOf(sale));
            int ahead = ':';
            for (int k = 0; k < s.kinds; k++) {
                int pieces = s.givenOf(sale, k);
                for (int i = 0; i < pieces; i++) {
                    writeByte(ahead);
                    writeNumber(s.values[k]);
                    ahead = ' ';
                }
            }
        }
    }

    /**
     * The fewest pieces for each sum, kind by kind from the least one on: so many of a kind are given, or returned
     * (below 0). Level k of the table knows the kinds ahead of k.
     */
    private static final class Fewest {
        private static final int NEVER = 1000000;
        private static final int WIDTH = 2 * MOST_SETTLED + 1;

        private final int[] values = new int[MOST_KINDS];
        private final int[] given = new int[MOST_KINDS];
        private final int[] returned = new int[MOST_KINDS];
        private int kinds;
        private int origin;
        private int top = NONE;
        private final int[][] least = new int[MOST_KINDS + 1][WIDTH];
        private final int[] lows = new int[MOST_KINDS + 1];
        private final int[] highs = new int[MOST_KINDS + 1];
        private final int[] queueStep = new int[WIDTH];
        private final int[] queueCost = new int[WIDTH];

        /** Makes a table for all amounts up to high, by the first so many kinds of a stock. */
        void layChange(State s, int[] stock, int byKinds, int high) {
            if (byKinds < 0 || byKinds > MOST_KINDS || high < 0 || high > MOST_AMOUNT) {
                return;
            }
            boolean same = origin == 0 && top >= high && kinds == byKinds;
            for (int k = 0; k < MOST_KINDS; k++) {
                int most = k < byKinds ? stock[k] : 0;
                same &= values[k] == s.values[k] && given[k] == most;
                values[k] = s.values[k];
                given[k] = most;
                returned[k] = 0;
            }
            if (!same) {
                origin = 0;
                top = high;
                kinds = byKinds;
                layLevels();
            }
        }

        /** Makes a table for all that may be settled. */
        void laySettling(State s) {
            boolean same = origin == MOST_SETTLED && kinds == s.kinds;
            for (int k = 0; k < MOST_KINDS; k++) {
                same &= values[k] == s.values[k] && given[k] == s.purse[k] && returned[k] == s.till[k];
                values[k] = s.values[k];
                given[k] = s.purse[k];
                returned[k] = s.till[k];
            }
            if (!same) {
                origin = MOST_SETTLED;
                top = MOST_SETTLED;
                kinds = s.kinds;
                layLevels();
            }
        }

        private void layLevels() {
            lows[0] = 0;
            highs[0] = 0;
            least[0][origin] = 0;
            for (int k = 0; k < kinds && k < MOST_KINDS; k++) {
                lows[k + 1] = Math.max(-origin, lows[k] - returned[k] * values[k]);
                highs[k + 1] = Math.min(top, highs[k] + given[k] * values[k]);
                copyLevel(k);
                if (given[k] > 0) {
                    spread(k, given[k], 1);
                }
                if (returned[k] > 0) {
                    spread(k, returned[k], -1);
                }
            }
        }

        private void copyLevel(int level) {
            int[] from = least[level];
            int[] to = least[level + 1];
            int low = lows[level] + origin;
            int high = highs[level] + origin;
            int last = highs[level + 1] + origin;
            for (int i = lows[level + 1] + origin; i <= last; i++) {
                to[i] = i >= low && i <= high ? from[i] : NEVER;
            }
        }

        /**
         * Lets up to so many pieces of the kind go one way. The sums that differ by whole pieces are walked in a line;
         * the queue holds those of the last steps that may yet be the best to start from.
         */
        private void spread(int level, int most, int way) {
            int value = values[level];
            if (value < 1) {
                return;
            }
            int[] from = least[level];
            int[] to = least[level + 1];
            int fromLow = lows[level] + origin;
            int fromHigh = highs[level] + origin;
            int span = highs[level + 1] - lows[level + 1];
            int first = (way > 0 ? lows[level + 1] : highs[level + 1]) + origin;
            for (int line = 0; line < value && line <= span; line++) {
                int head = 0;
                int tail = 0;
                int step = 0;
                for (int along = line; along <= span; along += value) {
                    int i = first + way * along;
                    if (i >= fromLow && i <= fromHigh && from[i] < NEVER) {
                        int cost = from[i] - step;
                        while (tail > head && queueCost[tail - 1] > cost) {
                            tail--;
                        }
                        queueStep[tail] = step;
                        queueCost[tail] = cost;
                        tail++;
                    }
                    if (tail > head && queueStep[head] < step - most) {
                        head++;
                    }
                    if (tail > head && queueCost[head] + step < to[i]) {
                        to[i] = queueCost[head] + step;
                    }
                    step++;
                }
            }
        }

        /** How many pieces a sum takes by all kinds of the table; NONE if it can't be. */
        int piecesFor(int sum) {
            int pieces = costOf(kinds, sum);
            return pieces < NEVER ? pieces : NONE;
        }

        private int costOf(int level, int sum) {
            if (level < 0 || level > MOST_KINDS || sum < lows[level] || sum > highs[level]) {
                return NEVER;
            }
            return least[level][sum + origin];
        }

        /** Writes the row of a sum: the most of the greatest kind, then of the next one, and so on; how many pieces. */
        int read(int sum, int[] row) {
            int pieces = piecesFor(sum);
            if (pieces < 0) {
                return NONE;
            }
            int left = sum;
            int due = pieces;
            for (int k = MOST_KINDS - 1; k >= 0; k--) {
                row[k] = 0;
                if (k < kinds) {
                    row[k] = mostOf(k, left, due);
                    left -= row[k] * values[k];
                    due -= Math.abs(row[k]);
                }
            }
            return pieces;
        }

        private int mostOf(int kind, int sum, int due) {
            int some = given[kind];
            while (some > -returned[kind] && costOf(kind, sum - some * values[kind]) != due - Math.abs(some)) {
                some--;
            }
            return some;
        }
    }

    /** Change for one amount after another. */
    private static final class Changer {
        final int[] row = new int[MOST_KINDS];
        final Fewest fewest = new Fewest();
        private final int[] plentyValues = new int[MOST_KINDS];
        private final int[] plentyPieces = new int[MOST_AMOUNT + 1];
        private final int[] plentyKind = new int[MOST_AMOUNT + 1];
        private int plentyKinds;
        private int plentyTop;

        /** How many pieces the change for an amount has, from a stock; NONE if there is none. The row is the change. */
        int take(State s, int[] stock, int amount) {
            if (amount < 0 || amount > MOST_AMOUNT || s.worthOf(stock) < amount) {
                return NONE;
            }
            preparePlenty(s, amount);
            if (plentyKind[amount] < 0) {
                return NONE;
            }
            if (takeAsFromPlenty(s, stock, amount)) {
                return plentyPieces[amount];
            }
            fewest.layChange(s, stock, s.kinds, amount);
            return fewest.read(amount, row);
        }

        /** The change from no end of pieces is the change wherever the stock has it, which spares the table. */
        private boolean takeAsFromPlenty(State s, int[] stock, int amount) {
            for (int k = 0; k < MOST_KINDS; k++) {
                row[k] = 0;
            }
            int left = amount;
            for (int i = 0; i < MOST_AMOUNT && left > 0; i++) {
                int kind = plentyKind[left];
                if (kind < 0 || kind >= s.kinds || s.values[kind] > left || row[kind] >= stock[kind]) {
                    return false;
                }
                row[kind]++;
                left -= s.values[kind];
            }
            return left == 0;
        }

        private void preparePlenty(State s, int amount) {
            if (!isPlentyFor(s)) {
                plentyKinds = s.kinds;
                plentyTop = 0;
                copyRow(s.values, plentyValues);
            }
            for (int a = plentyTop + 1; a <= amount; a++) {
                plentyKind[a] = NONE;
                for (int k = 0; k < s.kinds; k++) {
                    offerKind(a, k, s.values[k]);
                }
            }
            plentyTop = Math.max(plentyTop, amount);
        }

        private void offerKind(int amount, int kind, int value) {
            if (value < 1 || value > amount || plentyKind[amount - value] < 0) {
                return;
            }
            int pieces = plentyPieces[amount - value] + 1;
            if (plentyKind[amount] < 0 || pieces <= plentyPieces[amount]) {
                plentyKind[amount] = kind;
                plentyPieces[amount] = pieces;
            }
        }

        private boolean isPlentyFor(State s) {
            if (plentyKinds != s.kinds) {
                return false;
            }
            for (int k = 0; k < s.kinds; k++) {
                if (plentyValues[k] != s.values[k]) {
                    return false;
                }
            }
            return true;
        }
    }

    /** A day as it would be lived from some row of pieces on. */
    private static final class Life {
        final int[] till = new int[MOST_KINDS];
        final int[] least = new int[MOST_KINDS];
        /** How many pieces fewer of one kind (the others as they are) there could be, and the day would be lived just so. */
        final int[] spare = new int[MOST_KINDS];
        int shorts;
        int pieces;
        int firstShort;
        int goneSale;
        int goneKind;
        final Changer changer = new Changer();
        private final int[] stock = new int[MOST_KINDS];

        /** Lives a day with such a row in the till, and leaves in the till what is there behind. */
        void liveFrom(int[] row, State s, int day) {
            begin(row);
            int sales = s.salesOf(day);
            for (int i = 0; i < sales; i++) {
                meetSale(s, s.firstSale(day), i);
            }
        }

        /** Lives a day as far as its first short sale; whether there is none. */
        boolean isLivedWhole(int[] row, State s, int day) {
            begin(row);
            int sales = s.salesOf(day);
            for (int i = 0; i < sales && shorts == 0; i++) {
                meetSale(s, s.firstSale(day), i);
            }
            return shorts == 0;
        }

        private void begin(int[] row) {
            copyRow(row, till);
            copyRow(row, least);
            copyRow(row, spare);
            shorts = 0;
            pieces = 0;
            firstShort = SECOND;
            goneSale = SECOND;
            goneKind = SECOND;
        }

        private void meetSale(State s, int first, int k) {
            for (int i = 0; i < s.kinds; i++) {
                stock[i] = till[i] + s.givenOf(first + k, i);
            }
            int some = changer.take(s, stock, s.givenWorth(first + k) - s.priceOf(first + k));
            if (some < 0 || takesTooMuch(s)) {
                firstShort = shorts == 0 ? k : firstShort;
                shorts++;
                return;
            }
            pieces += some;
            for (int i = s.kinds - 1; i >= 0; i--) {
                if (till[i] > 0 && stock[i] == 0 && (goneSale < 0 || goneSale == k)) {
                    goneSale = k;
                    goneKind = i;
                }
                till[i] = stock[i];
                least[i] = Math.min(least[i], till[i]);
            }
        }

        /** Takes the change out of the stock: whether that leaves too many of some kind. */
        private boolean takesTooMuch(State s) {
            int full = 0;
            for (int k = 0; k < s.kinds; k++) {
                stock[k] -= changer.row[k];
                full += stock[k] >= FULL ? 1 : 0;
            }
            for (int k = 0; k < s.kinds; k++) {
                boolean isCause = full == 1 && stock[k] >= FULL;
                spare[k] = Math.min(spare[k], isCause ? stock[k] - FULL : stock[k]);
            }
            return full > 0;
        }
    }

    /** The amounts that can be taken out of a stock, a bit each. */
    private static final class Reach {
        private static final int WORDS = MOST_AMOUNT / 64 + 1;
        private final long[] bits = new long[WORDS];

        void spread(State s, int[] stock) {
            for (int i = 1; i < WORDS; i++) {
                bits[i] = 0;
            }
            bits[0] = 1;
            for (int k = 0; k < s.kinds; k++) {
                int left = stock[k];
                for (int some = 1; some <= FULL && left > 0; some *= 2) {
                    int taken = Math.min(some, left);
                    addShifted(taken * s.values[k]);
                    left -= taken;
                }
            }
        }

        private void addShifted(int shift) {
            if (shift < 1 || shift > MOST_AMOUNT) {
                return;
            }
            int words = shift / 64;
            int rest = shift % 64;
            for (int i = WORDS - 1; i >= words; i--) {
                long moved = bits[i - words] << rest;
                if (rest > 0 && i > words) {
                    moved |= bits[i - words - 1] >>> (64 - rest);
                }
                bits[i] |= moved;
            }
        }

        private boolean isReached(int amount) {
            return (bits[amount / 64] >>> (amount % 64) & 1) == 1;
        }

        int leastMissing() {
            for (int a = 0; a <= MOST_AMOUNT; a++) {
                if (!isReached(a)) {
                    return a;
                }
            }
            return SECOND;
        }

        int missing() {
            long last = (2L << MOST_AMOUNT % 64) - 1;
            int reached = Long.bitCount(bits[WORDS - 1] & last);
            for (int i = 0; i < WORDS - 1; i++) {
                reached += Long.bitCount(bits[i]);
            }
            return MOST_AMOUNT + 1 - reached;
        }
    }
}
