/**
 * The boundary sentences about days (promises 23 to 30, 33, 38 and 39): each test names its sentence. With the path of
 * the document as argument the sentences are looked for in it, too.
 */
public final class BoundsOfDaysTest {
    private static final int NONE = TillFloat.NONE;
    private static final String EIGHT = "kinds 1 2 3 4 5 6 7 8";
    private static final String ONES = "day" + ";sale1:1".repeat(40);
    // (3 1 0), then (2 2 0), 10 for 7 is short, (0 4 0), (1 4 0); 10 for 6 is short; (0 2 0)
    private static final String MARKET = "kinds 1 5 10;float 3 1 0;day;sale 4:5;sale 7:10;sale 8:5 5;sale 1:1;day;sale 6:10;day;sale 2:5;day";

    public static void main(String[] args) throws Exception {
        Sentences.open(args);
        day();
        dayShort();
        sale();
        behind();
        lasts();
        trim();
        trimAsNow();
        worst();
        bags();
        mean();
        needs();
        needsWithin99();
        needsLeastRow();
        flow();
        gone();
        nothingChanges();
        Sentences.close("bounds of days");
    }

    /** The call with K in place of the day answers NONE wherever there is no such day. */
    private static void noDay(String call) {
        for (String day : new String[] {"-1", "4", "5", "32", "MAX", "MIN"}) {
            Asked.till(MARKET).due(call.replace("K", day), NONE);
        }
        Asked.till("kinds 1 5;float 9 9").due(call.replace("K", "0"), NONE);
        Asked.till("kinds 1 5;float 9 9;day;day;day;day;day").due(call.replace("K", "5"), NONE);
        Asked.fresh().due(call.replace("K", "0"), NONE).due(call.replace("K", "-1"), NONE);
    }

    /** The call with K in place of the kind answers NONE wherever there is no such kind; -1 where that is no NONE of its own. */
    private static void noKind(String call) {
        for (String kind : new String[] {"-2", "3", "8", "MAX", "MIN"}) {
            Asked.till(MARKET).due(call.replace("K", kind), NONE);
        }
        Asked.till(EIGHT + ";day").due(call.replace("K", "8"), NONE);
    }

    private static void day() {
        Sentences.promise(23, "Of a DAY what 0: SALES, 1: PRICES together");
        Asked.till(MARKET).each("day(K, 0)", 4, 1, 1, 0, NONE).each("day(K, 1)", 20, 6, 2, 0, NONE);
        Asked.till("kinds1;" + ONES).each("day(0, K)", 40, 40);
        Asked.till("kinds500;day" + ";sale1000:500 500".repeat(22)).each("day(0, K)", 22, 22000);
        Asked.till("kinds 1;day;day;day;day;day;sale 1:1").due("day(4, 0)", 1).due("day(4, 1)", 1);

        Sentences.promise(23, "3: PIECES of CHANGE then");
        Asked.till(MARKET).due("day(0, 3)", 3).due("day(1, 3)", 0).due("day(2, 3)", 3).due("day(3, 3)", 0);
        Asked.till("kinds 1 100;float 99 0;day;sale 1:100").due("day(0, 3)", 99);

        Sentences.promise(23, "NONE without these");
        Asked.till(MARKET).due("day(0, -1)", NONE).due("day(0, 6)", NONE).due("day(0, MAX)", NONE).due("day(0, MIN)", NONE).due("day(3, 6)", NONE);
        for (int what = 0; what < 6; what++) {
            noDay("day(K, " + what + ")");
        }
    }

    private static void dayShort() {
        Sentences.promise(23, "2: SHORT ones, were it LIVED now");
        Asked.till(MARKET).due("day(0, 2)", 1).due("day(1, 2)", 1).due("day(2, 2)", 0).due("day(3, 2)", 0);
        Asked.till("kinds1;float 99;" + ONES).due("day(0, 2)", 40);
        Asked.till("kinds1;float 59;" + ONES).due("day(0, 2)", 0).act("put(0, 0, 60)").due("day(0, 2)", 1);

        Sentences.promise(23, "4: the first SHORT SALE (-2)");
        Asked.till(MARKET).due("day(0, 4)", 1).due("day(1, 4)", 0).due("day(2, 4)", -2).due("day(3, 4)", -2);
        Asked.till("kinds1;float 59;" + ONES).due("day(0, 4)", -2).act("put(0, 0, 60)").due("day(0, 4)", 39).act("put(0, 0, 98)").due("day(0, 4)", 1)
            .act("put(0, 0, 99)").due("day(0, 4)", 0);

        Sentences.promise(23, "5: the lowest KIND of which none is in the TILL behind it (-2)");
        Asked.till(MARKET).due("day(0, 5)", 2).due("day(2, 5)", 0).due("day(3, 5)", 2).act("put(0, 2, 1)").due("day(3, 5)", -2).due("day(0, 5)", -2)
            .due("day(2, 5)", 0).act("put(0, 1, 0)").due("day(3, 5)", 1);
        Asked.till(EIGHT + ";float 1 1 1 1 1 1 1 0;day").due("day(0, 5)", 7).act("put(0, 7, 1)").due("day(0, 5)", -2);
        Asked.till("kinds 1;day").due("day(0, 5)", 0);
    }

    private static void sale() {
        Sentences.promise(24, "Of a SALE of a DAY what 0: PRICE, 1: what was given, together, 2: PIECES given, 10 and so on: how many of KIND 0 and so on");
        Asked.till(MARKET).each("sale(0, 2, K)", 8, 10, 2, NONE, NONE, NONE, NONE, NONE, NONE, NONE, 0, 2, 0, NONE).each("sale(1, 0, K)", 6, 10, 1)
            .each("sale(0, K, 0)", 4, 7, 8, 1, NONE);
        Asked.till(EIGHT + ";day;sale 8:8;sale 36:8 7 8 7 6").due("sale(0, 0, 17)", 1).due("sale(0, 0, 18)", NONE)
            .each("sale(0, 1, 1K)", 0, 0, 0, 0, 0, 1, 2, 2, NONE).due("sale(0, 1, 1)", 36);
        // of eight kinds the greatest of one sale stands next to the least of the next one
        Asked.till(EIGHT + ";day;sale 8:8;sale 1:1;sale 9:8 1").each("sale(0, K, 0)", 8, 1, 9).each("sale(0, K, 1)", 8, 1, 9)
            .each("sale(0, K, 2)", 1, 1, 2).each("sale(0, K, 10)", 0, 1, 1).each("sale(0, K, 17)", 1, 0, 1);
        Asked.till("kinds 1 500;day;sale 1000:500 500 500 500 500;sale 1:1 1 1 1 1").each("sale(0, 0, K)", 1000, 2500, 5).due("sale(0, 0, 11)", 5)
            .due("sale(0, 1, 10)", 5);
        Asked.till("kinds1;" + ONES).due("sale(0, 39, 0)", 1).due("sale(0, 39, 10)", 1).due("sale(0, 40, 0)", NONE).due("sale(0, 40, 10)", NONE);

        Sentences.terms("The k-th: from 0 on.");
        Asked.till(MARKET).due("sale(0, 0, 0)", 4).due("sale(0, 3, 0)", 1).due("sale(1, 0, 0)", 6).due("letter(0)", 'k');

        Sentences.promise(24, "NONE without these");
        Asked.till(MARKET).due("sale(0, 0, -1)", NONE).due("sale(0, 0, 3)", NONE).due("sale(0, 0, 9)", NONE).due("sale(0, 0, 13)", NONE)
            .due("sale(0, 0, MAX)", NONE).due("sale(0, 0, MIN)", NONE).due("sale(0, -1, 0)", NONE).due("sale(0, 4, 0)", NONE)
            .due("sale(1, 1, 0)", NONE).due("sale(3, 0, 0)", NONE).due("sale(0, MAX, 0)", NONE).due("sale(0, MIN, 0)", NONE)
            .due("sale(2, 40, 0)", NONE);
        noDay("sale(K, 0, 0)");
        noDay("sale(K, 0, 10)");
    }

    private static void behind() {
        Sentences.promise(25, "How many PIECES of a KIND would be in the TILL behind a DAY, were it LIVED so many times (1 to 20)");
        Asked.till("kinds 1;day;sale 1:1").due("behind(0, 1, 0)", 1).due("behind(0, 2, 0)", 2).due("behind(0, 19, 0)", 19)
            .due("behind(0, 20, 0)", 20);
        Asked.till("kinds 1;float 90;day;sale 1:1").due("behind(0, 8, 0)", 98).due("behind(0, 9, 0)", 99).due("behind(0, 10, 0)", 99)
            .due("behind(0, 20, 0)", 99);
        Asked.till("kinds 1 5;float 7 0;day;sale 3:5").due("behind(0, 3, 0)", 1).due("behind(0, 4, 0)", 1).due("behind(0, 20, 1)", 3);
        Asked.till(EIGHT + ";day;sale 8:8").due("behind(0, 20, 7)", 20).due("behind(0, 20, 6)", 0);
        Asked.till("kinds 1;float 9;day").due("behind(0, 20, 0)", 9);

        Sentences.promise(25, "NONE without these");
        Asked.till(MARKET).due("behind(0, 0, 0)", NONE).due("behind(0, 21, 0)", NONE).due("behind(0, -1, 0)", NONE).due("behind(0, MAX, 0)", NONE)
            .due("behind(0, MIN, 0)", NONE).due("behind(0, 1, -1)", NONE);
        noDay("behind(K, 1, 0)");
        noKind("behind(0, 1, K)");
    }

    private static void lasts() {
        Sentences.promise(26, "How many times a DAY can be LIVED, one behind the other, till some SALE is SHORT (0 to 50; 50: none is so far)");
        Asked.till("kinds 1;float 99;day;sale 1:1").due("lasts(0)", 0).act("put(0, 0, 98)").due("lasts(0)", 1).act("put(0, 0, 50)")
            .due("lasts(0)", 49).act("put(0, 0, 49)").due("lasts(0)", 50).act("put(0, 0, 48)").due("lasts(0)", 50).act("put(0, 0, 0)")
            .due("lasts(0)", 50);
        Asked.till("kinds 1 5;float 7 0;day;sale 3:5").due("lasts(0)", 3);
        Asked.till("kinds 1 5;float 1 0;day;sale 3:5").due("lasts(0)", 0);
        Asked.till("kinds 1;day").due("lasts(0)", 50);
        Asked.till("kinds1;float 19;" + ONES).due("lasts(0)", 2).act("put(0, 0, 20)").due("lasts(0)", 1).act("put(0, 0, 60)").due("lasts(0)", 0);

        Sentences.promise(26, "NONE without it");
        noDay("lasts(K)");
    }

    private static void trim() {
        Sentences.promise(27, "KIND by KIND, from the greatest on, the TILL has one PIECE less");
        Asked.till("kinds 1 2 5;float 9 9 9;day;sale 3:5;sale 4:5;sale 1:5;day").each("trim(0, K)", 7, 0, 0, NONE).due("trim(0, NONE)", 7)
            .each("trim(1, K)", 0, 0, 0, NONE).due("trim(1, NONE)", 0).act("put(0, 0, 3)").each("trim(0, K)", 3, 2, 0, NONE).due("trim(0, NONE)", 7);

        Sentences.promise(27, "how many of a KIND then");
        Asked.till("kinds 1 100;float 99 99;day;sale 1:100").each("trim(0, K)", 0, 0);
        Asked.till("kinds 1 100;float 99 98;day;sale 1:100").each("trim(0, K)", 99, 0).due("trim(0, NONE)", 99);
        Asked.till("kinds 1 100;float 98 98;day;sale 1:100").each("trim(0, K)", 0, 0).due("trim(0, NONE)", 0);
        Asked.till("kinds 1 5;day;sale 1:5").each("trim(0, K)", 0, 0).due("trim(0, NONE)", 0);
        Asked.till(EIGHT + ";float 0 0 0 9 0 0 0 1;day;sale 3:7;sale 3:7").each("trim(0, K)", 0, 0, 0, 2, 0, 0, 0, 0, NONE).due("trim(0, NONE)", 8);
        Asked.till("kinds 249 500;float 99 99;day;sale 2:500;day;sale 251:500").due("trim(0, NONE)", 0).due("trim(1, NONE)", 0).act("put(0, 1, 98)")
            .due("trim(1, NONE)", 249).due("trim(1, 0)", 1);

        Sentences.promise(27, "kind NONE: their VALUES together. NONE without these.");
        Asked.till(MARKET).due("trim(0, NONE)", 3);
        noDay("trim(K, NONE)");
        noDay("trim(K, 0)");
        noKind("trim(0, K)");
    }

    private static void trimAsNow() {
        Sentences.promise(27, "as long as no more SALES of a DAY, LIVED so, are SHORT than with what there is now");
        // both are short, and may be; one is short, and may be, but no other one
        Asked.till("kinds 1 5;float 5 99;day;sale 5:5;sale 5:5").due("day(0, 2)", 2).each("trim(0, K)", 0, 0);
        Asked.till("kinds 1 5;float 3 0;day;sale 3:5;sale 3:5").due("day(0, 2)", 1).each("trim(0, K)", 2, 0).act("put(0, 0, 4)")
            .each("trim(0, K)", 4, 0).act("put(0, 0, 1)").each("trim(0, K)", 0, 0).act("put(0, 0, 99)").each("trim(0, K)", 4, 0);
        // with 98 fives the first sale is no longer short, and its four ones are lacking in both others
        Asked.till("kinds 1 5 20;float 4 99 0;day;sale 1:5;sale 18:20;sale 18:20").due("day(0, 2)", 1).each("trim(0, K)", 4, 99, 0)
            .due("trim(0, NONE)", 499);
        // short for two kinds too full: one may go, then not the other
        Asked.till("kinds 1 5 10 20;float 6 99 99 0;day;sale 11:5 10;sale 17:20;sale 17:20").due("day(0, 2)", 1).each("trim(0, K)", 6, 99, 0, 0)
            .due("trim(0, NONE)", 501);
    }

    private static void worst() {
        Sentences.promise(28, "Of all DAYS, were each LIVED now, that with the most SHORT SALES, of several with the most PIECES of CHANGE, then the first, what 0: which, 1: how many SHORT, 2: PIECES");
        Asked.till(MARKET).each("worst(K)", 0, 1, 3, NONE).act("put(0, 0, 9)").each("worst(K)", 0, 0, 6);
        Asked.till("kinds 1 5;float 4 0;day;sale 4:5;day;sale 1:5;day;sale 4:5;sale 4:5;sale 3:5;sale 2:5").each("worst(K)", 2, 1, 4)
            .act("put(0, 0, 0)").each("worst(K)", 2, 4, 0);
        Asked.till("kinds 1 5;float 9 0;day;sale 4:5;day;sale 1:5;day;sale 1:5").each("worst(K)", 1, 0, 4);
        Asked.till("kinds 1;day;day;day;day;day").each("worst(K)", 0, 0, 0);
        Asked.till("kinds 1 2;day;day;day;day;day;sale 1:2").each("worst(K)", 4, 1, 0).act("put(0, 0, 1)").each("worst(K)", 4, 0, 1);
        // fewer pieces, but one short; as many short, but fewer pieces
        Asked.till("kinds 1 5;float 9 0;day;sale 1:5;sale 1:5;day;sale 4:5;sale 1:5;sale 1:5;sale 1:5;day;sale 1:5;sale 1:5;sale 5:5;sale 1:5;sale 1:5")
            .each("worst(K)", 2, 2, 8);
        Asked.till("kinds1;float 99;day;sale1:1;" + "day" + ";sale1:1".repeat(39)).each("worst(K)", 1, 39, 0);

        Sentences.promise(28, "-2: no DAYS; NONE for others");
        Asked.till("kinds 1;float 9").each("worst(K)", -2, -2, -2, NONE).due("worst(-1)", NONE).due("worst(MAX)", NONE).due("worst(MIN)", NONE);
        Asked.till(MARKET).due("worst(3)", NONE).due("worst(-1)", NONE).due("worst(MAX)", NONE).due("worst(MIN)", NONE);
        Asked.fresh().each("worst(K)", -2, -2, -2, NONE).due("worst(-1)", NONE);
    }

    private static void bags() {
        Sentences.promise(29, "BAGS of a KIND that must come so that the TILL has as many as its LIMIT, or more");
        Asked.till("kinds 1 2 5 10;float 5 20 30 0;limit 25 21 20 0;bag 10 99 1 10").each("bags(K)", 2, 1, 0, 0, NONE).act("put(2, 0, 26)")
            .due("bags(0)", 3).act("put(2, 0, 24)").due("bags(0)", 2).act("put(2, 0, 15)").due("bags(0)", 1).act("put(2, 0, 16)").due("bags(0)", 2)
            .act("put(2, 0, 6)").due("bags(0)", 1).act("put(2, 0, 5)").due("bags(0)", 0).act("put(2, 0, 4)").due("bags(0)", 0).act("put(2, 0, 0)")
            .due("bags(0)", 0);
        Asked.till("kinds 1 2;limit 99 99;bag 1 99").each("bags(K)", 99, 1).act("put(3, 1, 98)").due("bags(1)", 2);
        Asked.till(EIGHT).due("bags(7)", 10).due("bags(8)", NONE);

        Sentences.promise(29, "NONE without it");
        noKind("bags(K)");
        Asked.till(MARKET).due("bags(-1)", NONE);
        Asked.fresh().due("bags(0)", NONE).due("bags(-1)", NONE);
    }

    private static void mean() {
        Sentences.promise(30, "PIECES of CHANGE of a DAY, were it LIVED now, by SALES that are not SHORT, as bits of a double (that of 0.0 without such a SALE)");
        Asked.till("kinds 1 5;float 7 0;day;sale 3:5;sale 3:5;sale 2:5;sale 1:5;day;sale 5:5;day;day;sale 1:5")
            .each("mean(K)", Double.doubleToLongBits(7 / 3.0), 0, 0, Double.doubleToLongBits(4), NONE).act("put(0, 0, 0)")
            .each("mean(K)", 0, 0, 0, 0);
        Asked.till("kinds 1 5;float 1 0;day;sale 4:5;sale 5:5;sale 5:5;sale 5:5;sale 5:5;sale 5:5;sale 5:5")
            .due("mean(0)", Double.doubleToLongBits(1 / 7.0));
        Asked.till("kinds 1 5;float 2 0;day;sale 4:5;sale 4:5;sale 5:5").due("mean(0)", Double.doubleToLongBits(2 / 3.0));
        Asked.till("kinds1 2;float 3 0;day" + ";sale1:2;sale1:1".repeat(10)).due("mean(0)", Double.doubleToLongBits(10 / 20.0));
        Asked.till("kinds 1 100;float 99 0;day;sale 1:100").due("mean(0)", Double.doubleToLongBits(99));

        Sentences.promise(30, "NONE without it");
        noDay("mean(K)");
    }

    private static void needs() {
        Sentences.promise(33, "The fewest BAGS (of any KINDS, 4 at most in all) with which, were they in the TILL, a DAY LIVED would have no SHORT SALE");
        Asked.till("kinds 1 10;bag 1 1;day;sale 10:10;day;sale 9:10;day;sale 6:10;day;sale 5:10;day").each("needs(K, NONE)", 0, 1, 4, -2, 0, NONE)
            .each("needs(K, 0)", 0, 1, 4, -2, 0).each("needs(K, 1)", 0, 0, 0, -2, 0);
        Asked.till("kinds 1 2 5;bag 3 2 1;day;sale 1:5;day;sale 4:5").each("needs(0, K)", 0, 1, 0, NONE).each("needs(1, K)", 1, 0, 0, NONE);
        Asked.till("kinds 1 5;float 4 0;day;sale 1:5").due("needs(0, NONE)", 0).act("put(0, 0, 3)").due("needs(0, NONE)", 1);
        // of four kinds one each: 30, 9, 9, 9
        Asked.till("kinds 1 30 100 500;bag 1 1 1 1;day;sale 469:500;day;sale 369:500;day;sale 368:500").each("needs(0, K)", 1, 1, 0, 0)
            .due("needs(0, NONE)", 2).due("needs(1, NONE)", 3).each("needs(1, K)", 1, 1, 1, 0).due("needs(2, NONE)", 4)
            .each("needs(2, K)", 2, 1, 1, 0);
        Asked.till(EIGHT + ";bag 1 1 1 1 1 1 1 1;day;sale 1:8;day;sale 2:8 2").each("needs(0, K)", 0, 0, 0, 0, 0, 0, 1, 0, NONE)
            .each("needs(1, K)", 0, 0, 0, 0, 0, 0, 0, 0, NONE);

        Sentences.promise(33, "kind NONE: how many, else: of that KIND; -2: none of these do. NONE without these.");
        Asked.till("kinds 2 5;bag 9 9;day;sale 4:5").due("needs(0, NONE)", -2).due("needs(0, 0)", -2).due("needs(0, 1)", -2).due("needs(0, 2)", NONE)
            .due("needs(0, -2)", NONE).due("needs(1, NONE)", NONE);
        noDay("needs(K, NONE)");
        noDay("needs(K, 0)");
        noKind("needs(0, K)");
    }

    private static void needsWithin99() {
        Sentences.promise(33, "(no KIND above 99 by them)");
        Asked.till("kinds 1 10;float 3 0;bag 97 1;day;sale 1:10").due("needs(0, NONE)", -2).act("put(3, 0, 96)").due("needs(0, NONE)", 1)
            .due("needs(0, 0)", 1);
        // 99 ones are wanted: two bags of 50 are 100, three of 33 just 99, four of 25 are 100; three of 25 and 24 that are there 99
        Asked.till("kinds 1 100;float 0 0;bag 50 1;day;sale 1:100").due("needs(0, NONE)", -2).act("put(3, 0, 33)").due("needs(0, NONE)", 3)
            .act("put(3, 0, 25)").due("needs(0, NONE)", -2).act("put(0, 0, 24)").due("needs(0, NONE)", 3);
        // 99 that are there are not above 99 by them; the sale would make 100, and no bag mends that
        Asked.till("kinds 1 5;float 99 99;day;sale 1:5;day;sale 1:1").due("needs(0, NONE)", -2).due("needs(1, NONE)", -2).act("put(0, 1, 98)")
            .due("needs(0, NONE)", 0);
        Asked.till("kinds 1 5 20;float 99 0 0;bag 1 1 1;day;sale 10:20 1").due("needs(0, NONE)", 0).due("needs(0, 1)", 0);
    }

    private static void needsLeastRow() {
        Sentences.promise(33, "of as few the least row by KINDS, from KIND 0 on");
        // 0 1 0 ahead of 1 0 0; 0 2 0 ahead of 1 1 0 and 2 0 0
        Asked.till("kinds 10 20 50;bag 2 1 1;day;sale 30:50").each("needs(0, K)", 0, 1, 0).due("needs(0, NONE)", 1);
        Asked.till("kinds 1 2 10;bag 9 3 1;day;sale 4:10;sale 4:10").each("needs(0, K)", 0, 2, 0).due("needs(0, NONE)", 2);
        // the greatest kind itself; three and four bags
        Asked.till("kinds 2 5;bag 1 1;day;sale 5:2 2 2 2 2").each("needs(0, K)", 0, 1, NONE).due("needs(0, NONE)", 1);
        Asked.till("kinds 1 2 4 50;bag 1 1 1 1;day;sale 40:50;day;sale 39:50;day;sale 34:50;day;sale 35:50").each("needs(0, K)", 0, 1, 2, 0)
            .each("needs(1, K)", 1, 1, 2, 0).each("needs(2, K)", 0, 0, 4, 0).each("needs(3, K)", -2, -2, -2, -2).each("needs(K, NONE)", 3, 4, 4, -2);
        // 0 0 1 1 ahead of 0 1 0 1, 0 1 1 0 and all with a one
        Asked.till("kinds 1 2 4 8 20;bag 4 2 2 1 1;day;sale 8:20").each("needs(0, K)", 0, 0, 1, 1, 0).due("needs(0, NONE)", 2);
    }

    private static void flow() {
        Sentences.promise(38, "The least that there would be of a KIND in the TILL, now or behind some SALE of a DAY, were it LIVED now");
        Asked.till(MARKET).each("flow(0, K)", 0, 1, 0, NONE).each("flow(1, K)", 3, 1, 0, NONE).each("flow(2, K)", 0, 1, 0, NONE)
            .each("flow(3, K)", 3, 1, 0, NONE);
        // the least is behind the first sale, in the midst, behind the last
        Asked.till("kinds 1 5;float 4 0;day;sale 3:5;sale 2:1 1;day;sale 1:1;sale 3:5;sale 1:1;day;sale 1:1;sale 3:5;sale 4:5")
            .each("flow(K, 0)", 2, 3, 2);
        // a short sale moves nothing
        Asked.till("kinds 1 5;float 3 99;day;sale 3:5;day;sale 1:5").each("flow(K, 0)", 3, 3).each("flow(K, 1)", 99, 99);
        Asked.till("kinds 1;float 99;day;sale 1:1").due("flow(0, 0)", 99);
        Asked.till(EIGHT + ";float 9 9 9 9 9 9 9 9;day;sale 1:1").due("flow(0, 7)", 9).due("flow(0, 8)", NONE);

        Sentences.promise(38, "NONE without these");
        Asked.till(MARKET).due("flow(0, -1)", NONE);
        noDay("flow(K, 0)");
        noKind("flow(0, K)");
    }

    private static void gone() {
        Sentences.promise(39, "behind which (what 0) the TILL has none of some KIND of which it had some ahead of that SALE; the lowest such KIND (1); -2: there is none");
        Asked.till(MARKET).each("gone(0, K)", 2, 0, NONE).each("gone(1, K)", -2, -2, NONE).each("gone(2, K)", 0, 0, NONE)
            .each("gone(3, K)", -2, -2, NONE);
        // none was there ahead of it; given and out again; two at once
        Asked.till("kinds 1 5;day;sale 4:5;day;sale 4:1 5;day;sale 5:5").each("gone(K, 0)", -2, -2, -2, NONE);
        Asked.till("kinds 1 2 10;float 0 1 1;day;sale 8:10;day;sale 7:10;sale 4:2 2").each("gone(0, K)", 0, 1).act("put(0, 0, 1)")
            .each("gone(1, K)", 0, 0).each("gone(0, K)", 0, 1);
        Asked.till(EIGHT + ";float 0 0 0 0 0 0 1 1;day;sale 1:8;sale 2:8 1").each("gone(0, K)", 0, 6);
        Asked.till(EIGHT + ";float 0 0 0 0 0 0 0 1;day;sale 1:1;sale 1:1;sale 1:1 2 6").due("gone(0, 0)", 2).due("gone(0, 1)", 7);
        // the last of 40
        Asked.till("kinds1 2;float1 0;day" + ";sale2:2".repeat(39) + ";sale1:2").each("gone(0, K)", 39, 0);
        // first there, gone, there again and gone again: the first time, and the kind of that time
        Asked.till("kinds 1 2;float 1 0;day;sale 1:2;sale 1:1;sale 1:2").each("gone(0, K)", 0, 0);
        Asked.till("kinds 1 2 5;float 1 1 0;day;sale 3:5;sale 4:5").each("gone(0, K)", 0, 1);
        Asked.till("kinds 1 2;float 1 0;day;sale 2:2;sale 1:2;sale 1:1;sale 1:2").each("gone(0, K)", 1, 0);

        Sentences.promise(39, "NONE without these");
        Asked.till(MARKET).due("gone(0, -1)", NONE).due("gone(0, 2)", NONE).due("gone(0, MAX)", NONE).due("gone(0, MIN)", NONE)
            .due("gone(3, 2)", NONE);
        noDay("gone(K, 0)");
        noDay("gone(K, 1)");
    }

    private static void nothingChanges() {
        Sentences.terms("Nothing is promised beyond the answers and state changes described above");
        Asked.till("kinds 1 5;float 4 2;purse 9 3;limit 1 9;day;sale 3:5").act("hand(1)").act("keep(1)").on("kinds 3").leaves("day(0, 2)", 0)
            .leaves("sale(0, 0, 0)", 3).leaves("behind(0, 2, 0)", 0).leaves("lasts(0)", 2).leaves("trim(0, NONE)", 2).leaves("worst(2)", 2)
            .leaves("mean(0)", Double.doubleToLongBits(2)).leaves("needs(0, NONE)", 0).leaves("flow(0, 0)", 2).leaves("gone(0, 0)", -2)
            .leaves("bags(0)", 0);
    }
}
