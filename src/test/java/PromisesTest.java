/** Each promise of the document by answers worked out by hand: ordinary inputs, the edges it names, wrong inputs. */
public final class PromisesTest {
    private static final int NONE = TillFloat.NONE;
    private static int wrong = 0;
    private static int asked = 0;

    private static void due(String what, long want, long got) {
        asked++;
        if (got != want) {
            wrong++;
            System.out.println(what + ": answered " + got + ", due is " + want);
        }
    }

    public static void main(String[] args) {
        aNewObject();
        feed();
        end();
        tell();
        faultsOfKinds();
        faultsOfRows();
        faultsOfDays();
        put();
        hand();
        pay();
        payRefused();
        sell();
        live();
        bank();
        order();
        drawn();
        undo();
        keepAndBack();
        kind();
        changeAndPiece();
        settle();
        ways();
        gap();
        scarce();
        day();
        sale();
        behindAndLasts();
        trim();
        worst();
        bags();
        mean();
        pays();
        swap();
        needs();
        dearestAndShare();
        greedy();
        letter();
        flowAndGone();
        even();
        total();
        count();
        System.out.println(wrong == 0 ? "promises: " + asked + " answers as due" : "promises: " + wrong + " answers not as due");
        if (wrong != 0) {
            System.exit(1);
        }
    }

    private static String text(TillFloat x) {
        StringBuilder t = new StringBuilder();
        int length = x.letter(NONE);
        for (int k = 0; k < length; k++) {
            t.append((char) x.letter(k));
        }
        return t.toString();
    }

    private static void dueText(String what, String want, TillFloat x) {
        asked++;
        if (!text(x).equals(want)) {
            wrong++;
            System.out.println(what + ": answered " + text(x) + ", due is " + want);
        }
    }

    // 1
    private static void aNewObject() {
        TillFloat x = new TillFloat();
        for (int what = 0; what < 10; what++) {
            due("a new object's count " + what, 0, x.count(what));
        }
        due("NONE", -1, TillFloat.NONE);
        due("no kind", NONE, x.kind(0, 0));
        due("no kind to change", 0, x.change(0));
        due("no day", NONE, x.day(0, 0));
        due("nothing kept", -2, x.back(1));
        due("kept without kinds", 0, x.keep(1));
        due("a shelf with no kinds", 2, x.count(7));
        due("back without kinds", 0, x.back(1));
    }

    // 2
    private static void feed() {
        TillFloat x = new TillFloat();
        due("the first twenty", 20, x.feed(0x6b696e64, 0x73203120, 0x320a0b0c, 0, 0));
        for (int i = 2; i <= 20; i++) {
            due("twenty more", 20 * i, x.feed(-1, -1, -1, -1, -1));
        }
        due("full", NONE, x.feed(0, 0, 0, 0, 0));
        due("all stand", 400, x.count(6));
        due("cut", 381, x.end(381));
        due("19 free", NONE, x.feed(0, 0, 0, 0, 0));
        due("cut", 380, x.end(380));
        due("20 free", 400, x.feed(0, 0, 0, 0, 0));
        due("the highest byte first", 9, x.end(9));
        due("told", 2, x.tell());
        due("a value", 1, x.kind(0, 0));
        due("a value", 2, x.kind(1, 0));
    }

    // 3
    private static void end() {
        TillFloat x = new TillFloat();
        due("nothing there", 0, x.end(0));
        due("not so many", NONE, x.end(1));
        x.feed(1, 2, 3, 4, 5);
        due("below 0", NONE, x.end(-1));
        due("not so many", NONE, x.end(21));
        due("nothing happened", 20, x.count(6));
        due("all", 20, x.end(20));
        due("some", 7, x.end(7));
        due("no more then", NONE, x.end(8));
        due("none", 0, x.end(0));
    }

    // 4
    private static void tell() {
        TillFloat x = Texts.till("kinds 2 5;float 3 4;purse 1 2;limit 5 6;bag 7 8;day;sale 3:5;day");
        dueText("all told", "kinds 2 5;float 3 4;purse 1 2;limit 5 6;bag 7 8;day;sale 3:5;day", x);
        due("the tape is empty", 0, x.count(6));
        x.hand(0);
        x.put(2, 0, 0);
        x.bank();
        x.keep(0);
        Texts.feed(x, "kinds 2 x");
        due("a fault", -2 - (8 * 8 + 1), x.tell());
        due("the tape is empty", 0, x.count(6));
        due("nothing else happened", 3, x.kind(0, 6));
        due("nor that", 1, x.kind(0, 5));
        due("nor that", 3, x.count(5));
        Texts.feed(x, "kinds7");
        due("one kind", 1, x.tell());
        dueText("what is not told", "kinds 7;float 0;purse 0;limit 99;bag 10", x);
        due("no tray", 0, x.kind(0, 5));
        due("no safe", 0, x.kind(0, 6));
        due("nothing to undo", NONE, x.undo());
        due("shelves stay", 2, x.back(0));
        Texts.feed(x, "  kinds 1 2 3 4 5 6 7 500 ;  bag 1 99 1 1 1 1 1 1;day; day;sale0003 :003 ;sale 1000 :  500 500  ");
        due("eight kinds, blanks, naughts ahead", 8, x.tell());
        due("no sales", 0, x.day(0, 0));
        due("a sale", 3, x.sale(1, 0, 0));
        due("a sale", 2, x.sale(1, 1, 17));
        StringBuilder days = new StringBuilder("kinds1");
        for (int d = 0; d < 5; d++) {
            days.append(";day;sale1:1;sale1:1;sale1:1;sale1:1;sale1:1;sale1:1;sale1:1;sale1:1");
        }
        Texts.feed(x, days.toString());
        due("five days, forty sales", 1, x.tell());
        due("five days", 5, x.count(1));
        due("forty sales", 40, x.count(2));
        Texts.feed(x, days + ";sale1:1");
        due("a 41st sale", -2 - (8 * (days.length() + 1) + 3), x.tell());
        Texts.feed(x, days + ";day");
        due("a sixth day", -2 - (8 * (days.length() + 1) + 3), x.tell());
    }

    private static void fault(String text, int place, int what) {
        TillFloat x = Texts.till("kinds 3;float 4;day");
        Texts.feed(x, text);
        due("\"" + text + "\"", -2 - (8 * place + what), x.tell());
        dueText("nothing happened", "kinds 3;float 4;purse 0;limit 99;bag 10;day", x);
    }

    private static void faultsOfKinds() {
        fault("", 0, 1);
        fault("   ", 3, 1);
        fault("kinds", 5, 1);
        fault("kinds  ", 7, 1);
        fault("kind 1", 0, 1);
        fault(" kindss 1", 1, 1);
        fault("float 1", 0, 1);
        fault("1", 0, 1);
        fault(";kinds 1", 0, 1);
        fault("Kinds 1", 0, 1);
        fault("kInds 1", 0, 1);
        fault("kinds :", 6, 1);
        fault("kinds;", 5, 1);
        fault("kinds 0", 6, 2);
        fault("kinds 501", 6, 2);
        fault("kinds 000501", 6, 2);
        fault("kinds 4294967297", 6, 2);
        fault("kinds 99999999999999999999999999", 6, 2);
        fault("kinds 5 5", 8, 2);
        fault("kinds 5 4", 8, 2);
        fault("kinds 1 2 3 4 5 6 7 8 9", 22, 3);
        fault("kinds 1 2 3 4 5 6 7 8 8", 22, 2);
        fault("kinds 1 2 3 4 5 6 7 8 501", 22, 2);
        fault("kinds 1,2", 7, 1);
        fault("kinds 1\t2", 7, 1);
        fault("kinds 1\u0000", 7, 1);
        fault("kinds 1\u00ff", 7, 1);
        fault("kinds 1:2", 7, 1);
        fault("kinds 1day", 7, 1);
        fault("kinds 1 float 1", 8, 1);
        fault("kinds 1;", 8, 1);
        fault("kinds 1; ", 9, 1);
        fault("kinds 1;;", 8, 1);
        fault("kinds 1;2", 8, 1);
        fault("kinds 1;kinds 2", 8, 1);
        fault("kinds 1;days", 8, 1);
        fault("kinds 1;da", 8, 1);
        fault("kinds 1;dayz", 8, 1);
        fault("zkinds 1", 0, 1);
        fault("kinds 1;Day", 8, 1);
        fault("kinds 1;day 1", 12, 1);
    }

    private static void faultsOfRows() {
        fault("kinds 1 2;float", 15, 1);
        fault("kinds 1 2;float 1", 17, 1);
        fault("kinds 1 2;float 1 ", 18, 1);
        fault("kinds 1 2;float 1;day", 17, 1);
        fault("kinds 1 2;float 1 2 3", 20, 1);
        fault("kinds 1 2;float 1 100", 18, 2);
        fault("kinds 1 2;purse 100 1", 16, 2);
        fault("kinds 1 2;limit 99 0100", 19, 2);
        fault("kinds 1 2;bag 1 0", 16, 2);
        fault("kinds 1 2;bag 100 1", 14, 2);
        fault("kinds 1 2;bag 1 x", 16, 1);
        fault("kinds 1;float 1;purse 1;float 1", 24, 3);
        fault("kinds 1;purse 1;purse", 16, 3);
        fault("kinds 1;limit 1;limit 100", 16, 3);
        fault("kinds 1;bag 1;bag 0", 14, 3);
        fault("kinds 1;bags 1", 8, 1);
    }

    private static void faultsOfDays() {
        fault("kinds 1;sale 1:1", 8, 1);
        fault("kinds 1;float 1;sale", 16, 1);
        fault("kinds 1;day;sale", 16, 1);
        fault("kinds 1;day;sale :1", 17, 1);
        fault("kinds 1;day;sale 0:1", 17, 2);
        fault("kinds 1;day;sale 1001:1", 17, 2);
        fault("kinds 1;day;sale 1", 18, 1);
        fault("kinds 1;day;sale 1 1", 19, 1);
        fault("kinds 1;day;sale 1;", 18, 1);
        fault("kinds 1;day;sale 1:", 19, 1);
        fault("kinds 1;day;sale 1:;", 19, 1);
        fault("kinds 1;day;sale 1:2", 19, 2);
        fault("kinds 1;day;sale 1:0", 19, 2);
        fault("kinds 1;day;sale 1:1:", 20, 1);
        fault("kinds 1;day;sale 2:1", 19, 4);
        fault("kinds 1;day;sale 3:1  1 ", 22, 4);
        fault("kinds 1;day;sale 3:1 1;x", 21, 4);
        fault("kinds 1;day;sale 3:1 1?", 21, 4);
        fault("kinds 1;day;sale 3:1 2", 21, 2);
        fault("kinds 1;day;sale 5:1 1 1 1 1 1", 29, 3);
        fault("kinds 1;day;sale 9:1 1 1 1 1 1", 29, 3);
        fault("kinds 1;day;sale 9:1 1 1 1 1 2", 29, 2);
        fault("kinds 1;day;sale 9:1 1 1 1 1", 27, 4);
        fault("kinds 1;day;day;day;day;day;day", 28, 3);
        fault("kinds 1;day;sale 1:1;float", 26, 1);
        due("a float behind the days", 1, tellOf("kinds 1;day;sale 1:1;float 5"));
        due("5 pieces just do", 1, tellOf("kinds 1;day;sale 5:1 1 1 1 1"));
    }

    private static int tellOf(String text) {
        TillFloat x = new TillFloat();
        Texts.feed(x, text);
        return x.tell();
    }

    // 5
    private static void put() {
        TillFloat x = Texts.till("kinds 2 5;float 3 4;purse 1 2;limit 5 6;bag 7 8");
        due("till", 4, x.put(0, 1, 99));
        due("purse", 1, x.put(1, 0, 0));
        due("limit", 6, x.put(2, 1, 0));
        due("bag", 7, x.put(3, 0, 1));
        dueText("all put", "kinds 2 5;float 3 99;purse 0 2;limit 5 0;bag 1 8", x);
        due("it is so", -2, x.put(3, 0, 1));
        due("it is so", -2, x.put(0, 1, 99));
        due("no bag of none", NONE, x.put(3, 0, 0));
        due("below 0", NONE, x.put(0, 0, -1));
        due("100", NONE, x.put(1, 0, 100));
        due("no row", NONE, x.put(4, 0, 1));
        due("no row", NONE, x.put(-1, 0, 1));
        due("no kind", NONE, x.put(0, 2, 1));
        due("no kind", NONE, x.put(0, -1, 1));
        due("refused ones are no acts", 4, x.count(5));
    }

    // 6
    private static void hand() {
        TillFloat x = Texts.till("kinds 2 5;purse 4 2");
        due("no kind", NONE, x.hand(2));
        due("no kind", NONE, x.hand(-1));
        due("one", 1, x.hand(1));
        due("two", 2, x.hand(1));
        due("none left", -2, x.hand(1));
        due("three", 3, x.hand(0));
        due("four", 4, x.hand(0));
        due("five", 5, x.hand(0));
        due("five are there", -3, x.hand(0));
        due("none ahead of five", -2, x.hand(1));
        due("on the tray", 3, x.kind(0, 5));
        due("in the purse", 1, x.kind(0, 2));
        due("acts", 5, x.count(5));
    }

    // 7
    private static void pay() {
        TillFloat x = Texts.till("kinds 1 5 10;float 2 0 0;purse 0 2 1");
        x.hand(1);
        x.hand(2);
        due("15 for 8 is 5 and 1 and 1", 3, x.pay(8));
        dueText("paid", "kinds 1 5 10;float 0 0 1;purse 2 2 0;limit 99 99 99;bag 10 10 10", x);
        due("the tray is empty", 0, x.count(4));
        due("nothing on it", -2, x.pay(1));
        x.hand(1);
        due("just the price", 0, x.pay(5));
        due("acts", 5, x.count(5));
        due("no price", NONE, x.pay(0));
        due("no price", NONE, x.pay(1001));
        due("the greatest price", -2, x.pay(1000));
    }

    private static void payRefused() {
        TillFloat x = Texts.till("kinds 1 5;float 3 99;purse 5 3");
        x.hand(1);
        due("too little on it", -2, x.pay(6));
        due("no change", -3, x.pay(1));
        due("100 fives in the till", -4, x.pay(5));
        due("nothing happened", 1, x.kind(1, 5));
        due("100 fives again", -4, x.pay(3));
        x.put(1, 0, 97);
        x.put(0, 1, 98);
        due("100 ones in the purse", -4, x.pay(2));
        due("99 of them", 2, x.pay(3));
        due("99 ones", 99, x.kind(0, 2));
        due("99 fives", 99, x.kind(1, 1));
        // what goes onto the tray and comes back as change stays below 100
        x = Texts.till("kinds 1 7;float 98 0;purse 5 1");
        for (int i = 0; i < 4; i++) {
            x.hand(0);
        }
        x.hand(1);
        due("102 less 4 ones", 4, x.pay(7));
        due("98 ones", 98, x.kind(0, 1));
    }

    // 8
    private static void sell() {
        TillFloat x = Texts.till("kinds 1 5 20;float 0 3 0;purse 1 0 1;day");
        due("20 given, 15 returned", 4, x.sell(5));
        dueText("sold", "kinds 1 5 20;float 0 0 1;purse 1 3 0;limit 99 99 99;bag 10 10 10;day", x);
        due("16 by four", 4, x.sell(16));
        due("nothing left", -2, x.sell(1));
        due("no price", NONE, x.sell(0));
        due("no price", NONE, x.sell(1001));
        due("acts", 2, x.count(5));
        x = Texts.till("kinds 1 5;float 99 0;purse 10 0");
        due("100 in the till", -3, x.sell(1));
        x = Texts.till("kinds 1 5;float 5 0;purse 99 1");
        due("100 in the purse", -3, x.sell(4));
        due("the tray stays", 1, x.hand(1));
        due("99 less 4", 4, x.sell(4));
        due("on the tray", 1, x.count(4));
    }

    // 9
    private static void live() {
        TillFloat x = Texts.till("kinds 1 5;float 2 99;day;sale 4:5;sale 3:5;sale 3:1 1 1;sale 3:5;day");
        due("no day", NONE, x.live(2));
        due("no day", NONE, x.live(-1));
        // 100 fives are too many, so both fives are short at first; the three ones stay
        due("three short", 3, x.live(0));
        due("ones", 5, x.kind(0, 1));
        due("fives", 99, x.kind(1, 1));
        x.put(0, 1, 0);
        due("lived again: 4, 2, 5, 3 ones", 0, x.live(0));
        due("ones", 3, x.kind(0, 1));
        due("fives", 3, x.kind(1, 1));
        due("a day without sales", 0, x.live(1));
        due("is an act", 4, x.count(5));
    }

    // 10
    private static void bank() {
        TillFloat x = Texts.till("kinds 1 2 5;float 9 5 7;limit 4 5 0");
        due("five ones, seven fives", 12, x.bank());
        due("at its limit", 4, x.kind(0, 1));
        due("safe", 5, x.kind(0, 6));
        due("safe", 0, x.kind(1, 6));
        due("safe", 7, x.kind(2, 6));
        due("nothing above", -2, x.bank());
        x.put(0, 0, 6);
        due("two more", 2, x.bank());
        due("safe", 7, x.kind(0, 6));
        due("no kinds", NONE, new TillFloat().bank());
        due("acts", 3, x.count(5));
    }

    // 11
    private static void order() {
        TillFloat x = Texts.till("kinds 1 2;float 9 5;bag 10 99");
        due("nine bags", 99, x.order(0, 9));
        due("one more", -2, x.order(0, 1));
        due("104", -2, x.order(1, 1));
        x.put(0, 1, 0);
        due("a bag of 99", 99, x.order(1, 1));
        due("no bags", NONE, x.order(0, 0));
        due("ten bags", NONE, x.order(0, 10));
        due("no kind", NONE, x.order(2, 1));
        due("no kind", NONE, x.order(-1, 1));
        due("acts", 3, x.count(5));
    }

    // 12
    private static void drawn() {
        TillFloat x = Texts.till("kinds 2 5 10");
        due("no sales", NONE, x.drawn(1, 0));
        due("eleven", NONE, x.drawn(1, 11));
        due("no kinds", NONE, new TillFloat().drawn(1, 1));
        // 0 -> 12345 (draw 0) -> -740551042 (draw 54236, of 20 the rest 16) -> -606480209 (draw 56281, rest 1)
        due("a day", 1, x.drawn(0, 3));
        due("price", 1, x.sale(0, 0, 0));
        due("the least that is worth it", 1, x.sale(0, 0, 10));
        due("price", priceOf(0, 2, 20), x.sale(0, 1, 0));
        due("price", priceOf(0, 3, 20), x.sale(0, 2, 0));
        for (int i = 0; i < 3; i++) {
            int price = x.sale(0, i, 0);
            due("given", price <= 2 ? 2 : price <= 5 ? 5 : price <= 10 ? 10 : 20, x.sale(0, i, 1));
            due("pieces", price <= 10 ? 1 : 2, x.sale(0, i, 2));
        }
        x = Texts.till("kinds 500");
        for (int d = 1; d <= 4; d++) {
            due("ten more", d, x.drawn(-d, 10));
            for (int k = 0; k < 10; k++) {
                int price = priceOf(-d, k + 1, 1000);
                due("price", price, x.sale(d - 1, k, 0));
                due("given", price <= 500 ? 1 : 2, x.sale(d - 1, k, 2));
            }
        }
        due("a 41st sale", -2, x.drawn(1, 1));
        x = Texts.till("kinds 1;day;day;day;day");
        due("the fifth", 5, x.drawn(1, 10));
        due("a sixth", -2, x.drawn(1, 1));
        due("undone", 0, x.undo());
        due("four", 4, x.count(1));
        due("no sales", 0, x.count(2));
    }

    private static int priceOf(int seed, int draws, int most) {
        long x = seed & 0xffffffffL;
        for (int i = 0; i < draws; i++) {
            x = (x * 1103515245L + 12345L) & 0xffffffffL;
        }
        return (int) ((x >> 16) % most) + 1;
    }

    // 13
    private static void undo() {
        TillFloat x = Texts.till("kinds 1 2;float 9 5;purse 3 3;limit 9 4;day;sale 1:2");
        due("nothing", NONE, x.undo());
        x.put(0, 0, 1);
        x.hand(0);
        x.pay(1);
        x.sell(2);
        x.live(0);
        x.bank();
        x.order(0, 1);
        x.drawn(1, 2);
        due("eight acts", 8, x.count(5));
        for (int i = 7; i >= 0; i--) {
            due("one undone", i, x.undo());
        }
        due("none left", NONE, x.undo());
        dueText("as at first", "kinds 1 2;float 9 5;purse 3 3;limit 9 4;bag 10 10;day;sale 1:2", x);
        due("the tray too", 0, x.count(4));
        due("the safe too", 0, x.total(2));
        for (int i = 0; i < 13; i++) {
            x.put(1, 1, 20 + i);
        }
        due("ten at most", 10, x.count(5));
        for (int i = 9; i >= 0; i--) {
            due("one undone", i, x.undo());
            due("as it was", 20 + i + 2, x.kind(1, 2));
        }
        due("the last ten alone", NONE, x.undo());
        x.put(1, 1, 1);
        x.put(1, 1, 2);
        x.undo();
        x.put(1, 1, 3);
        due("undone, then another", 1, x.undo());
        due("as it was", 1, x.kind(1, 2));
        due("the last", 0, x.undo());
        due("as it was", 22, x.kind(1, 2));
    }

    // 14, 15
    private static void keepAndBack() {
        TillFloat x = Texts.till("kinds 1 2;float 9 5;purse 3 3;limit 0 4;day;sale 1:2");
        due("no shelf", NONE, x.keep(2));
        due("no shelf", NONE, x.keep(-1));
        due("no shelf", NONE, x.back(2));
        due("no shelf", NONE, x.back(-1));
        due("nothing kept", -2, x.back(0));
        x.hand(1);
        x.bank();
        due("kept", 2, x.keep(1));
        due("the second shelf", 2, x.count(7));
        due("no act", 2, x.count(5));
        x.drawn(3, 4);
        x.put(0, 0, 50);
        x.pay(2);
        Texts.feed(x, "kinds 7");
        due("told", 1, x.tell());
        x.feed(1, 2, 3, 4, 5);
        x.put(0, 0, 1);
        due("kept", 1, x.keep(0));
        due("both shelves", 3, x.count(7));
        due("back", 2, x.back(1));
        dueText("as it was kept", "kinds 1 2;float 0 4;purse 3 2;limit 0 4;bag 10 10;day;sale 1:2", x);
        due("tray", 1, x.kind(1, 5));
        due("safe", 9, x.kind(0, 6));
        due("nothing to undo", NONE, x.undo());
        due("the tape stays", 20, x.count(6));
        x.put(0, 0, 77);
        due("the shelf is as it was", 2, x.back(1));
        due("as it was kept", 0, x.kind(0, 1));
        due("the other", 1, x.back(0));
        due("one kind", 7, x.kind(0, 0));
    }

    // 16
    private static void kind() {
        TillFloat x = Texts.till("kinds 2 5;float 3 4;purse 1 2;limit 2 6;bag 7 8");
        x.hand(1);
        x.bank();
        int[][] want = {{2, 2, 1, 2, 7, 0, 1}, {5, 4, 1, 6, 8, 1, 0}};
        for (int k = 0; k < 2; k++) {
            for (int what = 0; what < 7; what++) {
                due("kind " + k + ", " + what, want[k][what], x.kind(k, what));
            }
        }
        due("no such", NONE, x.kind(0, 7));
        due("no such", NONE, x.kind(0, -1));
        due("no kind", NONE, x.kind(2, 0));
        due("no kind", NONE, x.kind(-1, 0));
    }

    // 17, 18
    private static void changeAndPiece() {
        TillFloat x = Texts.till("kinds 1 3 4;float 5 2 2;purse 9 9 9");
        due("0 is none", 0, x.change(0));
        due("6 is two threes", 2, x.change(6));
        due("of threes", 2, x.piece(6, 1));
        due("of fours", 0, x.piece(6, 2));
        due("9 is 4 4 1", 3, x.change(9));
        due("all of it", 9, x.change(19));
        due("more", -2, x.change(20));
        due("the most", -2, x.change(2500));
        due("too much", NONE, x.change(2501));
        due("below 0", NONE, x.change(-1));
        due("no piece of none", 0, x.piece(0, 0));
        due("no change", -2, x.piece(20, 0));
        due("no kind", NONE, x.piece(6, 3));
        due("no kind", NONE, x.piece(20, -1));
        due("too much", NONE, x.piece(2501, 0));
        // 8 as 5 3 and as 4 4: of as few the one with the five
        x = Texts.till("kinds 3 4 5;float 9 9 9");
        due("two", 2, x.change(8));
        due("with the greatest", 1, x.piece(8, 2));
        due("not these", 0, x.piece(8, 1));
        // 12 as 5 4 3 and as 4 4 4
        due("three", 3, x.change(12));
        due("with the greatest", 1, x.piece(12, 2));
        due("then the next", 1, x.piece(12, 1));
        x.put(0, 2, 0);
        due("without fives", 3, x.piece(12, 1));
        x = Texts.till("kinds 500;float 99");
        due("five of 500", 5, x.change(2500));
        due("none of 2499", -2, x.change(2499));
    }

    // 19
    private static void settle() {
        TillFloat x = Texts.till("kinds 1 5 20;float 0 3 0;purse 1 0 1;day");
        due("pieces", 4, x.settle(5, NONE));
        due("given", 1, x.settle(5, 2));
        due("returned", -3, x.settle(5, 1));
        due("none", 0, x.settle(5, 0));
        due("it can't be", -100, x.settle(22, NONE));
        due("it can't be", -100, x.settle(22, 1));
        due("no price", -1000, x.settle(0, NONE));
        due("no price", -1000, x.settle(1001, 0));
        due("no kind", -1000, x.settle(5, 3));
        due("no kind", -1000, x.settle(22, -2));
        // 8 as 5 and 3 or as 10 less 2: of as few the one with the ten
        x = Texts.till("kinds 2 3 5 10;float 9 9 9 9;purse 9 9 9 9");
        due("two pieces", 2, x.settle(8, NONE));
        due("the ten is given", 1, x.settle(8, 3));
        due("the two returned", -1, x.settle(8, 0));
        due("no three", 0, x.settle(8, 1));
        // the least kind first: 5 * 401 = 2005 would be returned ahead of what is given
        x = Texts.till("kinds 401 499;float 5 0;purse 0 6");
        due("2005 below", -100, x.settle(989, NONE));
        x = Texts.till("kinds 400 499;float 5 0;purse 0 6");
        due("just 2000 below", 11, x.settle(994, NONE));
        due("returned", -5, x.settle(994, 0));
        // 5 * 401 given ahead of what is returned
        x = Texts.till("kinds 401 499;float 0 3;purse 5 0");
        due("2005 above", -100, x.settle(508, NONE));
        x = Texts.till("kinds 400 499;float 0 3;purse 5 0");
        due("just 2000 above", 8, x.settle(503, NONE));
        // 99 of each may be passed here, not in sell()
        x = Texts.till("kinds 1;float 99;purse 1");
        due("settled all the same", 1, x.settle(1, NONE));
        due("not sold", -3, x.sell(1));
    }

    // 20
    private static void ways() {
        TillFloat x = Texts.till("kinds 1 2 5;float 5 2 1");
        due("0", 1, x.ways(0));
        due("4: 1111 112 22", 3, x.ways(4));
        due("5: 11111 1112 122 5", 4, x.ways(5));
        due("all", 1, x.ways(14));
        due("more", 0, x.ways(15));
        due("the most", 0, x.ways(2500));
        due("too much", NONE, x.ways(2501));
        due("below 0", NONE, x.ways(-1));
        x = Texts.till("kinds 1 2 3 4 5 6 7 8;float 99 99 99 99 99 99 99 99");
        PlainTill y = new PlainTill();
        Texts.feed(new TillFloat(), y, "kinds 1 2 3 4 5 6 7 8;float 99 99 99 99 99 99 99 99", new java.util.ArrayList<>());
        y.tell();
        due("very many", y.ways(1782), x.ways(1782));
        due("beyond an int", 1, x.ways(1782) > 1L << 40 ? 1 : 0);
    }

    // 21
    private static void gap() {
        TillFloat x = Texts.till("kinds 1 5;float 3 2");
        // 0 to 3, 5 to 8, 10 to 13
        due("least", 4, x.gap(0));
        due("all but twelve", 2501 - 12, x.gap(1));
        due("no such", NONE, x.gap(2));
        due("no such", NONE, x.gap(-1));
        x = Texts.till("kinds 1 50;float 49 49");
        due("2499 is the last", 2500, x.gap(0));
        due("one", 1, x.gap(1));
        x.put(0, 0, 50);
        due("none", -2, x.gap(0));
        due("none", 0, x.gap(1));
    }

    // 22
    private static void scarce() {
        TillFloat x = Texts.till("kinds 1 5;float 3 2");
        // one more of 1: 0 to 14, 15 amounts; one more of 5: 16 amounts
        due("fives", 1, x.scarce(0));
        due("how many", 2501 - 16, x.scarce(1));
        due("no such", NONE, x.scarce(2));
        due("no such", NONE, x.scarce(-1));
        x = Texts.till("kinds 2 4;float 0 0");
        due("of several the first", 0, x.scarce(0));
        x = Texts.till("kinds 1 50;float 50 49");
        due("nothing is lacking", -2, x.scarce(0));
        due("nothing is lacking", -2, x.scarce(1));
        x = Texts.till("kinds 1;float 99");
        due("99 are there", -2, x.scarce(0));
        x.put(0, 0, 98);
        due("98 are there", 2401, x.scarce(1));
        due("nothing happened", 98, x.kind(0, 1));
    }

    private static final String MARKET =
        "kinds 1 5 10;float 3 1 0;day;sale 4:5;sale 7:10;sale 8:5 5;sale 1:1;day;sale 6:10;day;sale 2:5";

    // 23
    private static void day() {
        TillFloat x = Texts.till(MARKET);
        // 1: (2 2 0), 10 for 7 takes 3 ones: none, short; 10 for 8 takes 2 ones: (0 4 0); (1 4 0)
        due("sales", 4, x.day(0, 0));
        due("prices", 20, x.day(0, 1));
        due("short", 1, x.day(0, 2));
        due("pieces", 3, x.day(0, 3));
        due("the first short", 1, x.day(0, 4));
        due("no tens behind it", 2, x.day(0, 5));
        due("the only one is short", 0, x.day(1, 4));
        due("none is short", -2, x.day(2, 4));
        // 10 for 6: 1 1 1 and no 4th: short
        x.put(0, 0, 9);
        x.put(0, 2, 1);
        due("10 for 6 is four ones", 4, x.day(1, 3));
        due("some of each", -2, x.day(1, 5));
        due("no such", NONE, x.day(0, 6));
        due("no such", NONE, x.day(0, -1));
        due("no day", NONE, x.day(3, 0));
        due("no day", NONE, x.day(-1, 0));
        due("nothing happened", 9, x.kind(0, 1));
    }

    // 24
    private static void sale() {
        TillFloat x = Texts.till(MARKET);
        due("price", 8, x.sale(0, 2, 0));
        due("given", 10, x.sale(0, 2, 1));
        due("pieces", 2, x.sale(0, 2, 2));
        due("fives", 2, x.sale(0, 2, 11));
        due("ones", 0, x.sale(0, 2, 10));
        due("another day", 6, x.sale(1, 0, 0));
        due("another day", 1, x.sale(1, 0, 12));
        due("no such", NONE, x.sale(0, 2, 3));
        due("no such", NONE, x.sale(0, 2, 9));
        due("no such", NONE, x.sale(0, 2, 13));
        due("no such", NONE, x.sale(0, 2, -1));
        due("no sale", NONE, x.sale(0, 4, 0));
        due("no sale", NONE, x.sale(0, -1, 0));
        due("no sale", NONE, x.sale(1, 1, 0));
        due("no day", NONE, x.sale(3, 0, 0));
        due("no day", NONE, x.sale(-1, 0, 0));
    }

    // 25, 26
    private static void behindAndLasts() {
        TillFloat x = Texts.till("kinds 1 5;float 7 0;day;sale 3:5;day;sale 1:1;day");
        due("once", 5, x.behind(0, 1, 0));
        due("thrice", 1, x.behind(0, 3, 0));
        due("twenty times", 1, x.behind(0, 20, 0));
        due("fives", 3, x.behind(0, 20, 1));
        due("no times", NONE, x.behind(0, 0, 0));
        due("21 times", NONE, x.behind(0, 21, 0));
        due("no kind", NONE, x.behind(0, 1, 2));
        due("no kind", NONE, x.behind(0, 1, -1));
        due("no day", NONE, x.behind(3, 1, 0));
        due("thrice", 3, x.lasts(0));
        due("fifty times", 50, x.lasts(1));
        due("without sales", 50, x.lasts(2));
        x.put(0, 0, 51);
        due("till it is full", 48, x.lasts(1));
        x.put(0, 0, 99);
        due("full", 0, x.lasts(1));
        due("no day", NONE, x.lasts(3));
        due("no day", NONE, x.lasts(-1));
    }

    // 27
    private static void trim() {
        TillFloat x = Texts.till("kinds 1 2 5;float 9 9 9;day;sale 3:5;sale 4:5;sale 1:5;day");
        // 2, 1, 4: no fives; the twos go down to 0, then 2 + 1 + 4 ones
        due("fives", 0, x.trim(0, 2));
        due("twos", 0, x.trim(0, 1));
        due("ones", 7, x.trim(0, 0));
        due("worth", 7, x.trim(0, NONE));
        due("a day without sales", 0, x.trim(1, NONE));
        x.put(0, 0, 3);
        // with three ones: 2, 2 2 and 1: fewer twos leave one short
        due("twos", 2, x.trim(0, 1));
        due("ones", 3, x.trim(0, 0));
        due("worth", 7, x.trim(0, NONE));
        x.put(0, 1, 0);
        // 2 and 1 of the three ones; 4 is short already, and so it may be: the first stays short then, too
        due("one is short", 1, x.day(0, 2));
        due("ones", 3, x.trim(0, 0));
        due("no kind", NONE, x.trim(0, 3));
        due("no kind", NONE, x.trim(0, -2));
        due("no day", NONE, x.trim(2, NONE));
        due("no day", NONE, x.trim(-1, NONE));
        due("nothing happened", 3, x.kind(0, 1));
        // a till too full makes sales short: less in it may make fewer short
        x = Texts.till("kinds 1 5;float 5 99;day;sale 5:5;sale 5:5");
        due("both are short", 2, x.day(0, 2));
        due("no fives", 0, x.trim(0, 1));
        due("no ones", 0, x.trim(0, 0));
        // with 98 fives the first sale is not short any more, but its four ones are lacking in the others
        x = Texts.till("kinds 1 5 20;float 4 99 0;day;sale 1:5;sale 18:20;sale 18:20");
        due("the first is short", 0, x.day(0, 4));
        due("all fives", 99, x.trim(0, 1));
        due("all ones", 4, x.trim(0, 0));
        // the first sale is short for two kinds: without the tens it is short for the fives alone, which stay then
        x = Texts.till("kinds 1 5 10 20;float 6 99 99 0;day;sale 11:5 10;sale 17:20;sale 17:20");
        due("one is short", 1, x.day(0, 2));
        due("no tens", 0, x.trim(0, 2));
        due("all fives", 99, x.trim(0, 1));
        due("all ones", 6, x.trim(0, 0));
        due("worth", 501, x.trim(0, NONE));
    }

    // 28
    private static void worst() {
        TillFloat x = Texts.till("kinds 1 5;float 4 0;day;sale 4:5;day;sale 1:5;day;sale 4:5;sale 4:5;sale 3:5;sale 2:5");
        // 1 of change; 4 of change; 1 1 2 of change and one short
        due("which", 2, x.worst(0));
        due("short", 1, x.worst(1));
        due("pieces", 4, x.worst(2));
        x.put(0, 0, 20);
        due("which", 2, x.worst(0));
        due("pieces", 7, x.worst(2));
        x.put(0, 0, 0);
        due("most short", 4, x.worst(1));
        x = Texts.till("kinds 1 5;float 9 0;day;sale 4:5;day;sale 1:5;day;sale 1:5");
        due("most pieces, the first", 1, x.worst(0));
        due("none short", 0, x.worst(1));
        due("no such", NONE, x.worst(3));
        due("no such", NONE, x.worst(-1));
        x = Texts.till("kinds 1");
        for (int what = 0; what < 3; what++) {
            due("no days", -2, x.worst(what));
        }
    }

    // 29
    private static void bags() {
        TillFloat x = Texts.till("kinds 1 2 5;float 5 20 30;limit 25 21 20;bag 10 99 1");
        due("two", 2, x.bags(0));
        due("one", 1, x.bags(1));
        due("none", 0, x.bags(2));
        x.put(2, 0, 26);
        due("three", 3, x.bags(0));
        x.put(2, 0, 5);
        due("as many as its limit", 0, x.bags(0));
        due("no kind", NONE, x.bags(3));
        due("no kind", NONE, x.bags(-1));
    }

    // 30
    private static void mean() {
        TillFloat x = Texts.till("kinds 1 5;float 7 0;day;sale 3:5;sale 3:5;sale 2:5;sale 1:5;day;sale 5:5;day");
        due("seven by three", Double.doubleToLongBits(7 / 3.0), x.mean(0));
        due("none by one", 0, x.mean(1));
        due("no sales", 0, x.mean(2));
        x.put(0, 0, 0);
        due("all short", 0, x.mean(0));
        due("no day", NONE, x.mean(3));
        due("no day", NONE, x.mean(-1));
        x = Texts.till("kinds 1 5;float 9 0;day;sale 4:5;sale 5:5;sale 5:5");
        due("a third", Double.doubleToLongBits(1 / 3.0), x.mean(0));
    }

    // 31
    private static void pays() {
        TillFloat x = Texts.till("kinds 3 4 5;float 9 9 9;purse 1 2 1");
        due("8 as 5 3", 2, x.pays(8, NONE));
        due("the greatest first", 1, x.pays(8, 2));
        due("the least", 1, x.pays(8, 0));
        due("the other", 0, x.pays(8, 1));
        due("all", 4, x.pays(16, NONE));
        due("more", -2, x.pays(17, NONE));
        due("not just it", -2, x.pays(1, 0));
        due("no price", NONE, x.pays(0, NONE));
        due("no price", NONE, x.pays(1001, NONE));
        due("no kind", NONE, x.pays(8, 3));
        due("no kind", NONE, x.pays(8, -2));
        x.hand(2);
        due("what is on the tray is not in the purse", 2, x.pays(8, 1));
    }

    // 32
    private static void swap() {
        TillFloat x = Texts.till("kinds 1 5 10 50;float 7 3 5 9;purse 0 1 2 0");
        due("ten into fives", 2, x.swap(2, 1));
        due("two tens into 5 5 5 1 ..", 8, x.swap(2, 2));
        due("22 is all there is", -2, x.swap(2, 3));
        due("a fifty, but the purse has none", -3, x.swap(3, 1));
        due("that can't be either", -2, x.swap(3, 2));
        due("two fives", -2, x.swap(1, 2));
        due("one five", 5, x.swap(1, 1));
        due("the least kind", -2, x.swap(0, 1));
        due("none", NONE, x.swap(2, 0));
        due("a hundred", NONE, x.swap(0, 100));
        due("99", -2, x.swap(1, 99));
        due("2500", -2, x.swap(3, 50));
        due("more than 2500", NONE, x.swap(3, 51));
        due("no kind", NONE, x.swap(4, 1));
        due("no kind", NONE, x.swap(-1, 1));
        x.put(0, 0, 8);
        x.put(0, 2, 0);
        due("5 5 5 and five ones", 8, x.swap(2, 2));
        x.put(1, 2, 1);
        due("the purse has one", -3, x.swap(2, 2));
    }

    // 33
    private static void needs() {
        TillFloat x = Texts.till("kinds 1 2 5;float 0 0 0;bag 3 2 1;day;sale 1:5;day;sale 4:5;day;sale 5:5;day");
        // 4 of change: one bag of twos
        due("one bag", 1, x.needs(0, NONE));
        due("of twos", 1, x.needs(0, 1));
        due("not of ones", 0, x.needs(0, 0));
        // 1 of change: one bag of ones
        due("one bag", 1, x.needs(1, NONE));
        due("of ones", 1, x.needs(1, 0));
        due("no bags", 0, x.needs(2, NONE));
        due("no bags", 0, x.needs(2, 1));
        due("a day without sales", 0, x.needs(3, NONE));
        due("no kind", NONE, x.needs(0, 3));
        due("no kind", NONE, x.needs(0, -2));
        due("no day", NONE, x.needs(4, NONE));
        due("no day", NONE, x.needs(-1, NONE));
        // 6 and 6 of change: one bag of ones has 9, one of twos 6; of two bags 0 0 2 and 0 1 1 do not, 0 2 0 does
        x = Texts.till("kinds 1 2 10;float 0 0 0;bag 9 3 1;day;sale 4:10;sale 4:10");
        due("two bags", 2, x.needs(0, NONE));
        due("of twos", 2, x.needs(0, 1));
        // 99 by them at most
        x = Texts.till("kinds 1 10;float 3 0;bag 97 1;day;sale 1:10");
        due("100 ones are too many", -2, x.needs(0, NONE));
        x.put(3, 0, 96);
        due("99 do", 1, x.needs(0, 0));
        // four bags at most
        x = Texts.till("kinds 1 10;float 0 0;bag 1 1;day;sale 6:10;day;sale 5:10");
        due("four ones", 4, x.needs(0, 0));
        due("four bags", 4, x.needs(0, NONE));
        due("five ones", -2, x.needs(1, NONE));
        due("five ones", -2, x.needs(1, 0));
        // a bag of tens would do as well as one of twenties: 0 1 0 is less than 1 0 0
        x = Texts.till("kinds 10 20 50;float 0 0 0;bag 2 1 1;day;sale 30:50");
        due("of twenties", 1, x.needs(0, 1));
        due("not of tens", 0, x.needs(0, 0));
    }

    // 34, 35
    private static void dearestAndShare() {
        TillFloat x = Texts.till("kinds 1 5;float 3 2");
        // 0 1 2 3, 1 2 3 4, 2 3 4 5 pieces
        due("five pieces", 5, x.dearest(0));
        due("for 13", 13, x.dearest(1));
        due("30 by 12", Double.doubleToLongBits(30 / 12.0), x.share());
        due("no such", NONE, x.dearest(2));
        due("no such", NONE, x.dearest(-1));
        x = Texts.till("kinds 1 3 4;float 2 2 2");
        // 9 as 4 4 1, 11 as 4 4 3, 10 as 4 3 3, 12 4 4 3 1: four pieces; 16 all six
        due("six pieces", 6, x.dearest(0));
        due("for 16", 16, x.dearest(1));
        x = Texts.till("kinds 1 500;float 0 99");
        due("five of 500", 2500, x.dearest(1));
        due("15 by 6", Double.doubleToLongBits(2.5), x.share());
        x = Texts.till("kinds 5");
        due("none", 0, x.share());
    }

    // 36
    private static void greedy() {
        TillFloat x = Texts.till("kinds 1 3 4;float 2 2 1");
        // 4 goes first: 6 as 4 1 1 and not 3 3; that is all
        due("6", 6, x.greedy(0));
        due("one", 1, x.greedy(1));
        x.put(0, 0, 0);
        // 6 comes to none
        due("6", 6, x.greedy(0));
        due("one", 1, x.greedy(1));
        due("no such", NONE, x.greedy(2));
        due("no such", NONE, x.greedy(-1));
        x = Texts.till("kinds 1 5 10;float 9 9 9");
        due("none", -2, x.greedy(0));
        due("none", 0, x.greedy(1));
    }

    // 37
    private static void letter() {
        TillFloat x = Texts.till("kinds 1 20 500;purse 99 0 7;day;day;sale 1000:500  20 500;sale 2:1 1");
        String text = "kinds 1 20 500;float 0 0 0;purse 99 0 7;limit 99 99 99;bag 10 10 10;day;day;sale 1000:20 500 500;sale 2:1 1";
        dueText("the text", text, x);
        due("how many", text.length(), x.letter(NONE));
        due("the last", '1', x.letter(text.length() - 1));
        due("behind it", -2, x.letter(text.length()));
        due("far behind it", -2, x.letter(Integer.MAX_VALUE));
        due("below NONE", NONE, x.letter(-2));
        due("below NONE", NONE, x.letter(Integer.MIN_VALUE));
        due("without kinds", 0, new TillFloat().letter(NONE));
        due("without kinds", -2, new TillFloat().letter(0));
        due("without kinds", NONE, new TillFloat().letter(-2));
        TillFloat y = Texts.till(text(x));
        dueText("told again", text, y);
    }

    // 38, 39
    private static void flowAndGone() {
        TillFloat x = Texts.till("kinds 1 5 10;float 3 1 0;day;sale 3:5;sale 5:5;sale 5:10;sale 4:5;sale 9:10;sale 5:1 1 1 1 1;day;day;sale 5:10");
        // (3 1 0) (1 2 0) (1 3 0) (1 2 1) (0 3 1) short, (5 3 1)
        due("ones", 0, x.flow(0, 0));
        due("fives: now", 1, x.flow(0, 1));
        due("tens: now", 0, x.flow(0, 2));
        due("the fourth sale", 3, x.gone(0, 0));
        due("of ones", 0, x.gone(0, 1));
        due("no sales", 3, x.flow(1, 0));
        due("no sales", -2, x.gone(1, 0));
        due("no sales", -2, x.gone(1, 1));
        due("a five for a ten", 0, x.gone(2, 0));
        due("of fives", 1, x.gone(2, 1));
        due("fives", 0, x.flow(2, 1));
        due("no kind", NONE, x.flow(0, 3));
        due("no kind", NONE, x.flow(0, -1));
        due("no day", NONE, x.flow(3, 0));
        due("no such", NONE, x.gone(0, 2));
        due("no such", NONE, x.gone(0, -1));
        due("no day", NONE, x.gone(3, 0));
        due("no day", NONE, x.gone(-1, 0));
        // two kinds gone at once: the lowest; what was gone before is not gone again
        x = Texts.till("kinds 1 2 10;float 0 1 1;day;sale 8:10;day;sale 7:10;sale 4:2 2");
        due("twos", 1, x.gone(0, 1));
        x.put(0, 0, 1);
        due("ones and twos", 0, x.gone(1, 1));
        due("the first", 0, x.gone(1, 0));
    }

    // 40
    private static void even() {
        TillFloat x = Texts.till("kinds 1 5;float 12 1");
        due("now", 1, x.even(5, 0));
        due("then by ones", 5, x.even(5, 1));
        due("again", 5, x.even(5, 2));
        due("no more", -2, x.even(5, 3));
        due("nor that", -2, x.even(5, 4));
        due("nothing", 0, x.even(0, 20));
        due("21 times", NONE, x.even(0, 21));
        due("below 0 times", NONE, x.even(0, -1));
        due("too much", NONE, x.even(2501, 0));
        due("below 0", NONE, x.even(-1, 0));
        due("there is none", -2, x.even(2500, 0));
        due("nothing happened", 12, x.kind(0, 1));
    }

    // 41
    private static void total() {
        TillFloat x = Texts.till("kinds 2 5;float 3 4;purse 1 2;limit 2 6");
        x.hand(1);
        x.bank();
        due("till", 24, x.total(0));
        due("purse", 7, x.total(1));
        due("safe", 2, x.total(2));
        due("tray", 5, x.total(3));
        due("limits", 34, x.total(4));
        due("no such", NONE, x.total(5));
        due("no such", NONE, x.total(-1));
    }

    // 42
    private static void count() {
        TillFloat x = Texts.till("kinds 2 5 7;float 3 4 5;purse 1 2 0;limit 2 6 5;day;sale 2:2;day;sale 1:2;sale 1:5");
        x.hand(0);
        x.hand(1);
        x.keep(1);
        x.feed(1, 2, 3, 4, 5);
        int[] want = {3, 2, 3, 12, 2, 2, 20, 2, 1, 2};
        for (int what = 0; what < want.length; what++) {
            due("count " + what, want[what], x.count(what));
        }
        due("no such", NONE, x.count(10));
        due("no such", NONE, x.count(-1));
    }
}
