/**
 * The boundary sentences about acts, what is undone and what is kept (promises 5 to 15): each test names its sentence.
 * With the path of the document as argument the sentences are looked for in it, too.
 */
public final class BoundsOfActsTest {
    private static final int NONE = TillFloat.NONE;

    public static void main(String[] args) throws Exception {
        Sentences.open(args);
        put();
        hand();
        payTakes();
        payRefuses();
        paid();
        sellTakes();
        sellRefuses();
        live();
        lived();
        bank();
        order();
        drawnDays();
        drawnSales();
        acts();
        undo();
        lastTen();
        refusedAheadOf();
        eightKinds();
        keep();
        back();
        Sentences.close("bounds of acts");
    }

    /** Something lies everywhere: on the tape, on a shelf, on the tray, in the safe, and two acts can be undone. */
    private static Asked till(String text) {
        return Asked.till(text).act("drawn(5, 1)").act("keep(1)").act("put(3, 0, 77)").on("kinds 3");
    }

    private static void put() {
        String text = "kinds 2 5;float 3 4;purse 1 2;limit 5 6;bag 7 8";
        Sentences.promise(5, "So many PIECES of a KIND (0 to 99) are in the TILL (row 0)");
        till(text).due("put(0, 0, 0)", 3).due("put(0, 0, 99)", 0).due("put(0, 1, 1)", 4).each("kind(K, 1)", 99, 1).leaves("put(0, 0, -1)", NONE)
            .leaves("put(0, 0, 100)", NONE).leaves("put(0, 1, MAX)", NONE).leaves("put(0, 1, MIN)", NONE);

        Sentences.promise(5, "in the PURSE (1)");
        till(text).due("put(1, 0, 0)", 1).due("put(1, 1, 99)", 2).due("put(1, 1, 98)", 99).each("kind(K, 2)", 0, 98).leaves("put(1, 0, -1)", NONE)
            .leaves("put(1, 0, 100)", NONE).leaves("put(1, 1, MAX)", NONE).leaves("put(1, 1, MIN)", NONE);

        Sentences.promise(5, "the LIMIT of it is so many (2)");
        till(text).due("put(2, 0, 0)", 5).due("put(2, 1, 99)", 6).due("put(2, 1, 98)", 99).each("kind(K, 3)", 0, 98).leaves("put(2, 0, -1)", NONE)
            .leaves("put(2, 0, 100)", NONE).leaves("put(2, 1, MAX)", NONE).leaves("put(2, 1, MIN)", NONE);

        Sentences.promise(5, "a BAG has so many (3; 1 and more)");
        till(text).due("put(3, 0, 1)", 77).due("put(3, 1, 99)", 8).due("put(3, 1, 98)", 99).each("kind(K, 4)", 1, 98).leaves("put(3, 0, 0)", NONE)
            .leaves("put(3, 0, -1)", NONE).leaves("put(3, 0, 100)", NONE).leaves("put(3, 1, MAX)", NONE).leaves("put(3, 1, MIN)", NONE);

        Sentences.promise(5, "how many it was; NONE, and nothing happens, without these");
        till(text).leaves("put(-1, 0, 1)", NONE).leaves("put(4, 0, 1)", NONE).leaves("put(MAX, 0, 1)", NONE).leaves("put(MIN, 0, 1)", NONE)
            .leaves("put(0, -1, 1)", NONE).leaves("put(0, 2, 1)", NONE).leaves("put(0, 8, 1)", NONE).leaves("put(1, MAX, 1)", NONE)
            .leaves("put(2, MIN, 1)", NONE);
        Asked.till("kinds 1 2 3 4 5 6 7 8").due("put(0, 7, 9)", 0).due("put(1, 7, 8)", 0).due("put(2, 7, 7)", 99).due("put(3, 7, 6)", 10)
            .each("kind(7, K)", 8, 9, 8, 7, 6).leaves("put(0, 8, 1)", NONE);

        Sentences.promise(5, "-2: it is so");
        till(text).leaves("put(0, 0, 3)", -2).leaves("put(1, 1, 2)", -2).leaves("put(2, 1, 6)", -2).leaves("put(3, 1, 8)", -2).due("put(0, 0, 0)", 3)
            .leaves("put(0, 0, 0)", -2).due("put(0, 0, 99)", 0).leaves("put(0, 0, 99)", -2);
    }

    private static void hand() {
        Sentences.promise(6, "One PIECE of a KIND goes from the PURSE onto the TRAY: how many PIECES are on it");
        Asked.till("kinds 1 2 5;purse 2 99 1").due("hand(2)", 1).due("hand(0)", 2).due("hand(1)", 3).each("kind(K, 2)", 1, 98, 0)
            .each("kind(K, 5)", 1, 1, 1);
        Asked.till("kinds 1 2 3 4 5 6 7 8;purse 1 1 1 1 1 1 1 1").due("hand(7)", 1).due("kind(7, 5)", 1);

        Sentences.promise(6, "NONE, and nothing happens, without that KIND");
        till("kinds 1 2;purse 2 2").leaves("hand(-1)", NONE).leaves("hand(2)", NONE).leaves("hand(8)", NONE).leaves("hand(MAX)", NONE)
            .leaves("hand(MIN)", NONE);

        Sentences.promise(6, "-2: there is none in the PURSE");
        till("kinds 1 2;float 9 9;purse 1 0").leaves("hand(1)", -2).due("hand(0)", 1).leaves("hand(0)", -2).due("kind(0, 2)", 0);

        Sentences.promise(6, "-3: 5 are on the TRAY");
        till("kinds 1 2;purse 9 2").due("hand(0)", 1).due("hand(0)", 2).due("hand(1)", 3).due("hand(0)", 4).due("hand(0)", 5).leaves("hand(0)", -3)
            .leaves("hand(1)", -3);
    }

    private static void payTakes() {
        Sentences.promise(7, "The TRAY is PAID for a PRICE (1 to 1000)");
        Asked.till("kinds 1 500;purse 1 2").act("hand(1)").act("hand(1)").due("pay(1000)", 0).each("kind(K, 1)", 0, 2).act("hand(0)").due("pay(1)", 0)
            .each("kind(K, 1)", 1, 2);

        Sentences.promise(7, "NONE, and nothing happens, for others");
        till("kinds 1 500;float 99 9;purse 0 5").act("hand(1)").act("hand(1)").act("hand(1)").leaves("pay(0)", NONE).leaves("pay(1001)", NONE)
            .leaves("pay(-1)", NONE).leaves("pay(MIN)", NONE).leaves("pay(MAX)", NONE).due("pay(1000)", 1);

        Sentences.promise(7, "how many PIECES of CHANGE go into the PURSE");
        Asked.till("kinds 1 5 20;float 3 3 0;purse 4 0 1").act("hand(2)").due("pay(2)", 6).each("kind(K, 1)", 0, 0, 1).each("kind(K, 2)", 7, 3, 0)
            .due("count(4)", 0);
        Asked.till("kinds 5;purse 1").act("hand(0)").due("pay(5)", 0).due("kind(0, 2)", 0).due("kind(0, 1)", 1).due("kind(0, 5)", 0);
        // the greatest there is: 5 of 500 for 1; 2499 is 500, four of 400 and 57 of 7
        String five = "kinds 3 7 400 500;float 0 57 5 0;purse 0 0 0 5";
        Asked.till(five).act("hand(3)").act("hand(3)").act("hand(3)").act("hand(3)").act("hand(3)").due("pay(1)", 62).each("kind(K, 1)", 0, 0, 1, 4)
            .each("kind(K, 2)", 0, 57, 4, 1);
        Asked.till(five).act("hand(3)").act("hand(3)").act("hand(3)").act("hand(3)").act("hand(3)").due("pay(101)", 61)
            .each("kind(K, 1)", 0, 0, 5, 1);
        Asked.till("kinds 51 500;float 49 0;purse 0 5").act("hand(1)").act("hand(1)").act("hand(1)").act("hand(1)").act("hand(1)").due("pay(1)", 49)
            .due("kind(0, 2)", 49);
    }

    private static void payRefuses() {
        Sentences.promise(7, "-2: the TRAY has less");
        till("kinds 1 5;float 9 9;purse 9 9").leaves("pay(1)", -2).leaves("pay(1000)", -2).act("hand(1)").leaves("pay(6)", -2).leaves("pay(1000)", -2)
            .due("pay(5)", 0);

        Sentences.promise(7, "-3: there is no CHANGE");
        till("kinds 1 5;float 2 9;purse 0 1").act("hand(1)").leaves("pay(2)", -3).leaves("pay(1)", -3).due("pay(3)", 2);
        till("kinds 5;float 9;purse 1").act("hand(0)").leaves("pay(4)", -3).leaves("pay(1)", -3).due("pay(5)", 0);

        Sentences.promise(7, "-4: some KIND would be 100 or more in the TILL or the PURSE behind it");
        till("kinds 1 5;float 9 99;purse 0 1").act("hand(1)").leaves("pay(5)", -4).act("put(0, 1, 98)").due("pay(5)", 0).due("kind(1, 1)", 99);
        till("kinds 1 5;float 9 9;purse 98 1").act("hand(1)").leaves("pay(3)", -4).due("pay(4)", 1).due("kind(0, 2)", 99);
        till("kinds 1 5;float 99 0;purse 1 1").act("hand(0)").act("hand(1)").leaves("pay(6)", -4).due("pay(5)", 1).each("kind(K, 1)", 99, 1);
        // 99 and 5 handed are 104 ahead of it; what counts is what there is behind it
        till("kinds 1 7;float 99 0;purse 4 1").act("hand(0)").act("hand(0)").act("hand(0)").act("hand(0)").act("hand(1)").leaves("pay(8)", -4)
            .due("pay(7)", 4).each("kind(K, 1)", 99, 1);
        // the kind handed is full in the till and comes back as change
        till("kinds 2 5;float 0 99;purse 0 2").act("hand(1)").act("hand(1)").leaves("pay(10)", -4).leaves("pay(5)", -4).act("put(0, 1, 98)")
            .due("pay(5)", 1).due("kind(1, 1)", 99).due("kind(1, 2)", 1);
        till("kinds 1;float 0;purse 99").act("hand(0)").due("put(1, 0, 99)", 98).due("pay(1)", 0).due("kind(0, 2)", 99);
    }

    private static void paid() {
        Sentences.terms("the TRAY goes into the TILL, CHANGE for what it is above the PRICE (from all that is in the TILL then) into the PURSE");
        Asked.till("kinds 1 5;purse 3 1").act("hand(1)").act("hand(0)").act("hand(0)").due("pay(5)", 2).each("kind(K, 1)", 0, 1)
            .each("kind(K, 2)", 3, 0);
        Asked.till("kinds 1 5;purse 3 1").act("hand(1)").act("hand(0)").act("hand(0)").due("pay(2)", 1).each("kind(K, 1)", 2, 0)
            .each("kind(K, 2)", 1, 1);
        Asked.till("kinds 1 5;purse 5 0").act("hand(0)").act("hand(0)").act("hand(0)").act("hand(0)").act("hand(0)").due("pay(1)", 4)
            .each("kind(K, 1)", 1, 0);
    }

    private static void sellTakes() {
        Sentences.promise(8, "A PRICE (1 to 1000) is SETTLED between PURSE and TILL");
        Asked.till("kinds 1 500;purse 1 2").due("sell(1000)", 2).due("sell(1)", 1).each("kind(K, 1)", 1, 2).each("kind(K, 2)", 0, 0);

        Sentences.promise(8, "NONE, and nothing happens, for others");
        till("kinds 1 500;purse 9 9").leaves("sell(0)", NONE).leaves("sell(1001)", NONE).leaves("sell(-1)", NONE).leaves("sell(MIN)", NONE)
            .leaves("sell(MAX)", NONE).due("sell(1000)", 2);

        Sentences.promise(8, "(the TRAY stays)");
        till("kinds 5 10;purse 2 0").act("hand(0)").leaves("sell(10)", -2).due("sell(5)", 1).due("kind(0, 5)", 1).due("count(4)", 1)
            .leaves("sell(5)", -2);
        Asked.till("kinds 5;float 98;purse 2").act("hand(0)").due("sell(5)", 1).due("kind(0, 1)", 99).due("count(4)", 1);

        Sentences.promise(8, "how many PIECES change hands");
        Asked.till("kinds 1 5 20;float 0 3 0;purse 1 0 1").due("sell(5)", 4).each("kind(K, 1)", 0, 0, 1).each("kind(K, 2)", 1, 3, 0);
    }

    private static void sellRefuses() {
        Sentences.promise(8, "-2: it cannot be");
        till("kinds 2 5;float 9 0;purse 0 1").leaves("sell(2)", -2).leaves("sell(4)", -2).leaves("sell(6)", -2).due("sell(5)", 1)
            .leaves("sell(5)", -2);
        till("kinds 1;float 9").leaves("sell(1)", -2).leaves("sell(1000)", -2);
        till("kinds 1;purse 99").leaves("sell(100)", -2).due("sell(99)", 99);

        Sentences.promise(8, "-3: as -4 of pay()");
        till("kinds 1 5;float 99 0;purse 3 0").leaves("sell(1)", -3).act("put(0, 0, 97)").leaves("sell(3)", -3).due("sell(2)", 2)
            .due("kind(0, 1)", 99);
        till("kinds 1 5;float 9 0;purse 98 1").leaves("sell(3)", -3).due("sell(4)", 2).due("kind(0, 2)", 99);
        till("kinds 1 5;float 0 99;purse 5 1").leaves("sell(5)", -3).due("put(0, 1, 98)", 99).due("sell(5)", 1).due("kind(1, 1)", 99);
    }

    private static void live() {
        Sentences.promise(9, "A DAY is LIVED: how many SALES were SHORT");
        Asked.till("kinds 1 5;float 3 0;day;sale 3:5;sale 4:5;sale 1:5;day;day;day;day;sale 4:5").due("live(4)", 0).each("kind(K, 1)", 2, 1)
            .due("live(0)", 2).each("kind(K, 1)", 0, 2);
        Asked.till("kinds 1 5;day;sale 3:5;sale 4:5").due("live(0)", 2).each("kind(K, 1)", 0, 0);
        Asked.till("kinds1;float 50;day" + ";sale1:1".repeat(40)).due("live(0)", 0).due("kind(0, 1)", 90).due("live(0)", 31).due("kind(0, 1)", 99)
            .due("live(0)", 40);
        Asked.till("kinds 1;day").due("live(0)", 0).due("count(5)", 1);

        Sentences.promise(9, "NONE, and nothing happens, without it");
        till("kinds 1 5;float 9 0;day;sale 3:5").leaves("live(2)", NONE).leaves("live(-1)", NONE).leaves("live(5)", NONE).leaves("live(MAX)", NONE)
            .leaves("live(MIN)", NONE);
        Asked.till("kinds 1;float 9").leaves("live(0)", NONE);
    }

    private static void lived() {
        Sentences.terms("what is given goes into the TILL, CHANGE for what it is above the PRICE out of it (from all that is there then)");
        Asked.till("kinds 1 5;day;sale 5:5 1 1;sale 2:5 1 1").due("live(0)", 0).each("kind(K, 1)", 2, 1);

        Sentences.terms("is there none, or would there be 100 or more of some KIND behind it: it is SHORT, and nothing of it happens");
        Asked.till("kinds 1 5;float 1 98;day;sale 5:5;sale 5:5;sale 4:5").due("live(0)", 2).each("kind(K, 1)", 1, 99);
        Asked.till("kinds 1 5;float 0 1;day;sale 4:5;sale 1:5").due("live(0)", 2).each("kind(K, 1)", 0, 1);
        // 99 and one given, one out as change: 99 behind it
        Asked.till("kinds 5 10;float 99 0;day;sale 10:5 10").due("live(0)", 0).each("kind(K, 1)", 99, 1);
        Asked.till("kinds 5 10;float 99 0;day;sale 15:5 10").due("live(0)", 1).each("kind(K, 1)", 99, 0);
        Asked.till("kinds 5 10;float 99 0;day;sale 5:5 5").due("live(0)", 1).each("kind(K, 1)", 99, 0);
        Asked.till("kinds 5 10;float 98 0;day;sale 5:5 5").due("live(0)", 0).each("kind(K, 1)", 99, 0);
        Asked.till("kinds 1;float 95;day;sale 5:1 1 1 1 1;sale 4:1 1 1 1 1;sale 4:1 1 1 1").due("live(0)", 2).due("kind(0, 1)", 99).due("live(0)", 3);
    }

    private static void bank() {
        Sentences.promise(10, "What the TILL has of each KIND above its LIMIT goes into the SAFE: how many PIECES");
        Asked.till("kinds 1 2 5 10;float 9 5 99 4;limit 8 5 0 99").due("bank()", 100).each("kind(K, 1)", 8, 5, 0, 4).each("kind(K, 6)", 1, 0, 99, 0);
        // the safe has no bound
        Asked.till("kinds 500;float 99;limit 0").due("bank()", 99).act("put(0, 0, 99)").due("bank()", 99).due("kind(0, 6)", 198)
            .due("total(2)", 99000);
        Asked.till("kinds 1 2 3 4 5 6 7 8;float 0 0 0 0 0 0 0 99;limit 0 0 0 0 0 0 0 98").due("bank()", 1).due("kind(7, 6)", 1);

        Sentences.promise(10, "NONE, and nothing happens, without KINDS");
        Asked.fresh().on("kinds 1").leaves("bank()", NONE);

        Sentences.promise(10, "-2: there is nothing");
        till("kinds 1 2 5;float 9 5 0;limit 9 6 0").leaves("bank()", -2).act("put(2, 0, 8)").due("bank()", 1).leaves("bank()", -2);
        till("kinds 1;float 99").leaves("bank()", -2);
        till("kinds 1;limit 0").leaves("bank()", -2);
    }

    private static void order() {
        Sentences.promise(11, "So many BAGS (1 to 9) of a KIND come into the TILL: how many it has of it then");
        Asked.till("kinds 1 2;float 1 0;bag 3 11").due("order(0, 1)", 4).due("order(0, 9)", 31).due("order(1, 9)", 99).each("kind(K, 1)", 31, 99);
        Asked.till("kinds 1 2 3 4 5 6 7 8").due("order(7, 1)", 10).each("kind(K, 1)", 0, 0, 0, 0, 0, 0, 0, 10);

        Sentences.promise(11, "NONE, and nothing happens, without these");
        till("kinds 1 2;bag 1 1").leaves("order(0, 0)", NONE).leaves("order(0, 10)", NONE).leaves("order(0, -1)", NONE).leaves("order(0, MAX)", NONE)
            .leaves("order(0, MIN)", NONE).leaves("order(-1, 1)", NONE).leaves("order(2, 1)", NONE).leaves("order(8, 1)", NONE)
            .leaves("order(MAX, 1)", NONE).leaves("order(MIN, 1)", NONE);
        // as an int 2^31 - 1 bags of 2 would be two below 0
        Asked.till("kinds 1;float 9;bag 2").leaves("order(0, MAX)", NONE).leaves("order(0, 1073741824)", NONE);

        Sentences.promise(11, "-2: that would be 100 or more");
        till("kinds 1 2;float 90 0;bag 1 99").leaves("order(0, 1)", -2).act("put(3, 0, 10)").leaves("order(0, 1)", -2).due("put(0, 0, 89)", 90)
            .due("order(0, 1)", 99).leaves("order(0, 1)", -2).leaves("order(1, 2)", -2).leaves("order(1, 9)", -2).due("order(1, 1)", 99);
        till("kinds 1 2;bag 1 12").leaves("order(1, 9)", -2).due("order(1, 8)", 96);
        Asked.till("kinds 1;bag 10").leaves("order(0, 10)", NONE).due("order(0, 9)", 90).leaves("order(0, 1)", -2).act("put(3, 0, 9)")
            .due("order(0, 1)", 99);
    }

    private static void drawnDays() {
        Sentences.promise(12, "One DAY more, behind the others, of n SALES (1 to 10) DRAWN by a seed");
        Asked.till("kinds 2 5;day;sale 2:2").due("drawn(0, 1)", 2).each("day(K, 0)", 1, 1, NONE).due("drawn(0, 10)", 3)
            .each("day(K, 0)", 1, 1, 10, NONE).due("count(2)", 12);

        Sentences.promise(12, "how many DAYS; NONE, and nothing happens, without KINDS, for another n");
        Asked.fresh().on("kinds 1").leaves("drawn(1, 1)", NONE).leaves("drawn(1, 0)", NONE).leaves("drawn(1, 11)", NONE);
        till("kinds 2 5").leaves("drawn(1, 0)", NONE).leaves("drawn(1, 11)", NONE).leaves("drawn(1, -1)", NONE).leaves("drawn(1, MAX)", NONE)
            .leaves("drawn(1, MIN)", NONE);

        Sentences.promise(12, "-2: there are 5, or there would be more than 40 SALES");
        Asked.till("kinds 2;day;day;day;day").due("drawn(1, 1)", 5).leaves("drawn(1, 1)", -2).due("count(1)", 5);
        Asked.till("kinds 2;day;day;day;day;day").leaves("drawn(1, 1)", -2).leaves("drawn(1, 10)", -2);
        Asked.till("kinds1;day" + ";sale1:1".repeat(30)).due("drawn(1, 10)", 2).due("count(2)", 40).leaves("drawn(1, 1)", -2);
        Asked.till("kinds1;day" + ";sale1:1".repeat(31)).leaves("drawn(1, 10)", -2).due("drawn(1, 9)", 2).due("count(2)", 40)
            .leaves("drawn(1, 1)", -2);
        Asked.till("kinds1;day" + ";sale1:1".repeat(39)).leaves("drawn(1, 2)", -2).due("drawn(1, 1)", 2).due("day(1, 0)", 1);
        Asked.till("kinds1;day" + ";sale1:1".repeat(40)).leaves("drawn(1, 1)", -2);
    }

    private static void drawnSales() {
        Sentences.promise(12, "of each the PRICE: a DRAW of twice the greatest VALUE, and 1");
        // seeds whose first draw of 10 is 0, 1, 2, 4, 5 and 9
        Asked.till("kinds 2 5").act("drawn(0, 1)").act("drawn(10, 1)").act("drawn(7, 1)").act("drawn(6, 1)").act("drawn(3, 1)")
            .each("sale(K, 0, 0)", 1, 2, 3, 5, 6).act("undo()").due("drawn(11, 1)", 5).due("sale(4, 0, 0)", 10);
        Asked.till("kinds 500").act("drawn(0, 10)").each("sale(0, K, 0)", 1, 237, 757, 886, 499, 696, 46, 510, 891, 411, NONE);

        Sentences.promise(12, "given: one PIECE of the least KIND that is worth it, else as few of the greatest one as are");
        Asked.till("kinds 2 5").act("drawn(0, 1)").act("drawn(10, 1)").act("drawn(7, 1)").act("drawn(6, 1)").act("drawn(3, 1)")
            .each("sale(K, 0, 10)", 1, 1, 0, 0, 0).each("sale(K, 0, 11)", 0, 0, 1, 1, 2).each("sale(K, 0, 1)", 2, 2, 5, 5, 10);
        Asked.till("kinds 1 2 3 4 5 6 7 8").act("drawn(3, 10)").each("sale(0, K, 0)", 4, 4, 14, 9, 15, 5, 14, 8, 9, 16)
            .each("sale(0, K, 1)", 4, 4, 16, 16, 16, 5, 16, 8, 16, 16).each("sale(0, K, 2)", 1, 1, 2, 2, 2, 1, 2, 1, 2, 2)
            .each("sale(0, K, 17)", 0, 0, 2, 2, 2, 0, 2, 1, 2, 2);
        Asked.till("kinds 2 5").act("drawn(11, 1)").each("sale(0, 0, K)", 10, 10, 2, NONE).due("sale(0, 0, 11)", 2);
        Asked.till("kinds 500").act("drawn(0, 10)").each("sale(0, K, 2)", 1, 1, 2, 2, 1, 2, 1, 2, 2, 1);
        Asked.till("kinds 1").act("drawn(7, 10)").each("sale(0, K, 0)", 1, 1, 1, 1, 2, 2, 1, 1, 2, 2)
            .each("sale(0, K, 10)", 1, 1, 1, 1, 2, 2, 1, 1, 2, 2);

        Sentences.promise(12, "(x becomes x * 1103515245 + 12345, an int, wrapping; a DRAW of m: x >>> 16, of m the rest; x is the seed at first)");
        Asked.till("kinds 500").act("drawn(-1, 10)").each("sale(0, K, 0)", 698, 410, 863, 487, 714, 995, 849, 832, 801, 735);
        Asked.till("kinds 500").act("drawn(MAX, 10)").each("sale(0, K, 0)", 930, 178, 631, 719, 482, 227, 81, 64, 33, 503);
        Asked.till("kinds 500").act("drawn(MIN, 10)").each("sale(0, K, 0)", 769, 469, 989, 118, 267, 928, 814, 742, 123, 179);
        Asked.till("kinds 500").act("drawn(12345, 10)").each("sale(0, K, 0)", 237, 757, 886, 499, 696, 46, 510, 891, 411, 30);
        Asked.till("kinds 500").act("drawn(-12345, 10)").each("sale(0, K, 0)", 301, 181, 628, 736, 839, 809, 117, 129, 835, 328);
    }

    private static final String MARKET = "kinds 1 5;float 9 7;purse 9 3;limit 8 99;bag 3 5;day;sale 3:5";

    private static void acts() {
        Sentences.terms("ACTS: all from put() to drawn()");
        Asked.till(MARKET).due("put(0, 0, 10)", 9).due("count(5)", 1).due("hand(1)", 1).due("count(5)", 2).due("pay(4)", 1).due("count(5)", 3)
            .due("sell(5)", 1).due("count(5)", 4).due("live(0)", 0).due("count(5)", 5).act("put(2, 0, 0)").act("bank()").due("count(5)", 7)
            .due("order(1, 1)", 15).due("count(5)", 8).due("drawn(1, 1)", 2).due("count(5)", 9);
        Asked.till(MARKET).act("put(1, 0, 1)").act("put(2, 0, 1)").act("put(3, 0, 1)").due("count(5)", 3);
        Asked.till(MARKET).act("put(0, 0, 1)").act("keep(0)").act("end(0)").act("feed(1, 2, 3, 4, 5)").due("tell()", -3).act("change(0)")
            .due("live(1)", NONE).due("count(5)", 1);
    }

    private static void undo() {
        Sentences.promise(13, "The last ACT is UNDONE: how many more can be");
        Asked.till(MARKET).undone("put(0, 0, 99)").undone("put(1, 1, 0)").undone("put(2, 0, 0)").undone("put(3, 1, 99)");
        Asked.till(MARKET).undone("hand(1)").act("hand(1)").act("keep(0)").undone("pay(4)").undone("hand(0)");
        Asked.till(MARKET).act("put(0, 0, 8)").undone("sell(3)").undone("live(0)").undone("order(0, 9)");
        Asked.till(MARKET).undone("bank()").undone("drawn(3, 10)").act("drawn(1, 1)").undone("drawn(2, 2)").undone("live(1)");
        Asked.till(MARKET).act("put(0, 0, 1)").act("put(0, 0, 2)").due("undo()", 1).due("kind(0, 1)", 1).due("undo()", 0).due("kind(0, 1)", 9);

        Sentences.promise(13, "NONE, and nothing happens, if none can");
        Asked.fresh().leaves("undo()", NONE);
        Asked.till(MARKET).on("kinds 2").leaves("undo()", NONE).act("put(0, 0, 1)").due("undo()", 0).leaves("undo()", NONE);
        Asked.till(MARKET).act("put(0, 0, 1)").on("kinds 1 5").act("tell()").leaves("undo()", NONE);
        Asked.till(MARKET).act("keep(0)").act("put(0, 0, 1)").act("back(0)").leaves("undo()", NONE);
    }

    private static void lastTen() {
        Sentences.terms("The last 10 can be UNDONE, the last first.");
        Asked x = Asked.till("kinds 1");
        for (int i = 1; i <= 10; i++) {
            x.act("put(0, 0, " + i + ")").due("count(5)", i);
        }
        for (int i = 9; i >= 0; i--) {
            x.due("undo()", i).due("kind(0, 1)", i);
        }
        x.leaves("undo()", NONE);

        Sentences.terms("The last 10 can be UNDONE, the last first.");
        x = Asked.till("kinds 1");
        for (int i = 1; i <= 11; i++) {
            x.act("put(0, 0, " + i + ")");
        }
        x.due("count(5)", 10);
        for (int i = 10; i >= 1; i--) {
            x.due("undo()", i - 1).due("kind(0, 1)", i);
        }
        x.leaves("undo()", NONE).due("kind(0, 1)", 1);

        Sentences.terms("The last 10 can be UNDONE, the last first.");
        x = Asked.till("kinds 1");
        for (int i = 1; i <= 25; i++) {
            x.act("put(0, 0, " + i + ")");
        }
        x.due("undo()", 9).due("undo()", 8).due("undo()", 7).due("kind(0, 1)", 22).act("put(0, 0, 50)").act("put(0, 0, 51)").due("count(5)", 9)
            .due("undo()", 8).due("kind(0, 1)", 50).due("undo()", 7).due("kind(0, 1)", 22);
        for (int i = 6; i >= 0; i--) {
            x.due("undo()", i).due("kind(0, 1)", 15 + i);
        }
        x.due("undo()", NONE);
    }

    private static void refusedAheadOf() {
        Sentences.terms("(Refused: NONE ahead of -2, that ahead of -3, that ahead of -4.)");
        // no row, kind or price, where it would be so or be lacking as well
        Asked.till("kinds 1 5;purse 9 0").leaves("put(3, 0, 0)", NONE).leaves("pay(0)", NONE).leaves("pay(1001)", NONE).leaves("sell(0)", NONE)
            .leaves("sell(1001)", NONE).leaves("order(0, 10)", NONE).leaves("back(2)", NONE).leaves("hand(2)", NONE);
        Asked.till("kinds 2;day;day;day;day;day").leaves("drawn(1, 0)", NONE).leaves("drawn(1, 11)", NONE);
        // none in the purse, and 5 on the tray
        Asked.till("kinds 1 5;purse 5 1").act("hand(0)").act("hand(0)").act("hand(0)").act("hand(0)").act("hand(0)").leaves("hand(0)", -2)
            .leaves("hand(1)", -3);
        // the tray has less, and the till is full of what lies on it; no change, and it is full
        Asked.till("kinds 2 5;float 0 99;purse 0 1").act("hand(1)").leaves("pay(6)", -2).leaves("pay(4)", -3).leaves("pay(5)", -4);
        // it cannot be, and the till is full
        Asked.till("kinds 2 5;float 0 99;purse 0 1").leaves("sell(4)", -2).leaves("sell(5)", -3);
    }

    private static void eightKinds() {
        Sentences.terms("KINDS 0, 1, .. (8 at most) of PIECES");
        String eight = "kinds 1 2 3 4 5 6 7 8;float 9 9 9 9 9 9 9 9;purse 9 9 9 9 9 9 9 9;day;sale 1:8";
        Asked.till(eight).due("put(0, 7, 8)", 9).due("hand(7)", 1).due("pay(1)", 1).each("kind(K, 1)", 9, 9, 9, 9, 9, 9, 8, 9)
            .each("kind(K, 2)", 9, 9, 9, 9, 9, 9, 10, 8).due("sell(8)", 1).due("live(0)", 0).each("kind(K, 1)", 9, 9, 9, 9, 9, 9, 7, 11)
            .due("put(2, 7, 0)", 99).due("bank()", 11).due("kind(7, 6)", 11).due("order(7, 1)", 10).due("drawn(3, 10)", 2).due("keep(0)", 8)
            .due("back(0)", 8).each("kind(K, 1)", 9, 9, 9, 9, 9, 9, 7, 10);
        Asked.till(eight).undone("put(0, 7, 8)").undone("hand(7)").act("hand(7)").undone("pay(1)").undone("sell(8)").undone("live(0)")
            .undone("order(7, 1)").undone("drawn(3, 10)").act("put(2, 7, 0)").undone("bank()");
        Asked.till("kinds 1 2 3 4 5 6 7 8;float 0 0 0 0 0 0 0 99;purse 0 0 0 0 0 0 0 9").leaves("sell(8)", -3).act("hand(7)").leaves("pay(8)", -4)
            .leaves("pay(7)", -3).leaves("order(7, 1)", -2).leaves("sell(1)", -2);
    }

    private static void keep() {
        Sentences.promise(14, "All is KEPT on a SHELF: how many KINDS");
        Asked.till(MARKET).act("hand(0)").act("bank()").due("keep(0)", 2).due("count(7)", 1).due("keep(1)", 2).due("count(7)", 3).act("put(0, 0, 1)")
            .due("keep(1)", 2).act("put(0, 0, 2)").due("back(0)", 2).due("kind(0, 1)", 8).due("kind(0, 5)", 1).due("kind(0, 6)", 1).due("back(1)", 2)
            .due("kind(0, 1)", 1);
        Asked.fresh().due("keep(0)", 0).due("count(7)", 1).due("back(0)", 0).due("back(1)", -2);
        Asked.till("kinds 1 2 3 4 5 6 7 8").due("keep(1)", 8).due("count(7)", 2);

        Sentences.promise(14, "NONE, and nothing happens, without that SHELF");
        till(MARKET).leaves("keep(-1)", NONE).leaves("keep(2)", NONE).leaves("keep(32)", NONE).leaves("keep(MAX)", NONE).leaves("keep(MIN)", NONE);
        Asked.fresh().leaves("keep(-1)", NONE).leaves("keep(2)", NONE);

        Sentences.terms("SHELVES 0, 1: all but the TAPE, ACTS, SHELVES");
        Asked.till(MARKET).act("put(0, 0, 1)").on("kinds 7").due("keep(0)", 2).due("count(5)", 1).due("count(6)", 7).due("end(0)", 0)
            .act("put(0, 0, 2)").due("keep(1)", 2).on("kinds 8").due("back(0)", 2).due("count(7)", 3).due("count(6)", 7).due("count(5)", 0)
            .due("tell()", 1).due("kind(0, 0)", 8);
        Asked.till(MARKET).act("put(0, 0, 1)").act("keep(0)").act("put(0, 0, 2)").due("undo()", 1).due("undo()", 0).due("count(7)", 1)
            .due("back(0)", 2).due("kind(0, 1)", 1);
    }

    private static void back() {
        Sentences.promise(15, "All is as it was KEPT (nothing can be UNDONE then): how many KINDS");
        Asked.till(MARKET).act("hand(1)").act("bank()").act("keep(1)").on("kinds 3").act("tell()").act("drawn(1, 9)").due("back(1)", 2)
            .due("count(5)", 0).leaves("undo()", NONE).each("kind(0, K)", 1, 8, 9, 8, 3, 0, 1).each("kind(1, K)", 5, 7, 2, 99, 5, 1, 0)
            .text("kinds 1 5;float 8 7;purse 9 2;limit 8 99;bag 3 5;day;sale 3:5").leaves("back(1)", 2).leaves("back(0)", -2);
        Asked.fresh().act("keep(0)").on("kinds 3").act("tell()").act("put(0, 0, 1)").due("back(0)", 0).due("count(0)", 0).due("count(5)", 0)
            .due("put(0, 0, 1)", NONE);
        // what is done with what came back does not touch the shelf
        Asked.till(MARKET).act("keep(0)").act("back(0)").act("put(0, 0, 1)").act("drawn(1, 1)").due("back(0)", 2).due("kind(0, 1)", 9)
            .due("count(1)", 1);

        Sentences.promise(15, "NONE, and nothing happens, without that SHELF");
        till(MARKET).leaves("back(-1)", NONE).leaves("back(2)", NONE).leaves("back(33)", NONE).leaves("back(32)", NONE).leaves("back(MAX)", NONE)
            .leaves("back(MIN)", NONE);
        Asked.fresh().leaves("back(-1)", NONE).leaves("back(2)", NONE);

        Sentences.promise(15, "-2: nothing is");
        till(MARKET).leaves("back(0)", -2).act("keep(0)").due("back(0)", 2);
        Asked.fresh().leaves("back(0)", -2).leaves("back(1)", -2).act("keep(1)").leaves("back(0)", -2);
    }
}
