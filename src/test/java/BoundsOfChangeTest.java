/**
 * The boundary sentences about what there is and about change (promises 16 to 22, 31, 32, 34 to 36, 40 to 42): each test
 * names its sentence. With the path of the document as argument the sentences are looked for in it, too.
 */
public final class BoundsOfChangeTest {
    private static final int NONE = TillFloat.NONE;
    private static final String EIGHT = "kinds 1 2 3 4 5 6 7 8";

    public static void main(String[] args) throws Exception {
        Sentences.open(args);
        kind();
        changeTerms();
        change();
        piece();
        settledTerms();
        settledWithin2000();
        settle();
        ways();
        gap();
        scarce();
        pays();
        swap();
        dearest();
        share();
        greedy();
        even();
        total();
        count();
        eightKinds();
        nothingChanges();
        nothingAskedCounts();
        Sentences.close("bounds of change");
    }

    private static void kind() {
        Sentences.promise(16, "Of a KIND what 0: its VALUE, 1: how many in the TILL, 2: in the PURSE, 3: LIMIT, 4: BAG, 5: on the TRAY, 6: in the SAFE");
        Asked.till("kinds 2 500;float 3 99;purse 5 99;limit 2 6;bag 7 99").act("hand(1)").act("bank()").each("kind(0, K)", 2, 2, 5, 2, 7, 0, 1, NONE)
            .each("kind(1, K)", 500, 6, 98, 6, 99, 1, 93, NONE);
        Asked.till(EIGHT + ";float 0 0 0 0 0 0 0 9;purse 0 0 0 0 0 0 0 7;limit 9 9 9 9 9 9 9 8").act("hand(7)").act("bank()")
            .each("kind(7, K)", 8, 8, 6, 8, 10, 1, 1, NONE);

        Sentences.promise(16, "NONE without these");
        Asked.till("kinds 2 5;float 9 9").due("kind(0, -1)", NONE).due("kind(0, 7)", NONE).due("kind(0, MAX)", NONE).due("kind(0, MIN)", NONE)
            .due("kind(-1, 0)", NONE).due("kind(2, 0)", NONE).due("kind(8, 0)", NONE).due("kind(MAX, 0)", NONE).due("kind(MIN, 0)", NONE);
        Asked.till(EIGHT).due("kind(8, 0)", NONE).due("kind(8, 3)", NONE);
        Asked.fresh().each("kind(0, K)", NONE, NONE, NONE, NONE, NONE, NONE, NONE);
    }

    // ---- CHANGE, promises 17 and 18 ----

    private static void changeTerms() {
        Sentences.terms("CHANGE for an AMOUNT from what there is: the fewest PIECES that are together just it");
        Asked.till("kinds 1 3 4;float 9 9 9").due("change(6)", 2).each("piece(6, K)", 0, 2, 0);
        Asked.till("kinds 1 3 4;float 9 1 9").due("change(6)", 3).each("piece(6, K)", 2, 0, 1);
        Asked.till("kinds 1 3 4;float 1 1 1").due("change(6)", -2).due("change(8)", 3).due("change(9)", -2).due("change(2)", -2);

        Sentences.terms("of several the row with the most of the greatest KIND, then of the next one, and so on (for 0: none)");
        // 5 3 and 4 4; 10 5 3 and 10 4 4; 20 10 5 3 and 20 10 4 4
        Asked.till("kinds 3 4 5;float 9 9 9").due("change(8)", 2).each("piece(8, K)", 1, 0, 1);
        Asked.till("kinds 3 4 5 10;float 9 9 9 9").due("change(18)", 3).each("piece(18, K)", 1, 0, 1, 1);
        Asked.till("kinds 3 4 5 10 20;float 9 9 9 9 9").due("change(38)", 4).each("piece(38, K)", 1, 0, 1, 1, 1);
        // the same where the till has too few of the greatest: 20 10 10 10 5 3 and 20 10 10 10 4 4
        Asked.till("kinds 3 4 5 10 20;float 9 9 9 9 1").due("change(58)", 6).each("piece(58, K)", 1, 0, 1, 3, 1);
        Asked.till("kinds 3 4 5 10 20;float 1 2 0 3 1").due("change(58)", 6).each("piece(58, K)", 0, 2, 0, 3, 1);
        // 9 2 2 and 6 6 1
        Asked.till("kinds 1 2 6 9;float 9 9 9 9").due("change(13)", 3).each("piece(13, K)", 0, 2, 0, 1);
        Asked.till("kinds 1 2 6 9;float 9 1 9 9").due("change(13)", 3).each("piece(13, K)", 1, 0, 2, 0);
        Asked.till("kinds 3 4 5;float 9 9 9").due("change(0)", 0).each("piece(0, K)", 0, 0, 0, NONE);
    }

    private static void change() {
        Sentences.promise(17, "CHANGE for an AMOUNT (0 to 2500) from the TILL: how many PIECES");
        Asked.till("kinds 1 500;float 99 99").due("change(0)", 0).due("change(1)", 1).due("change(2099)", 103).due("change(2100)", -2)
            .due("change(2500)", 5);
        Asked.till("kinds 500;float 5").due("change(2500)", 5);
        Asked.till(EIGHT + ";float 99 99 99 99 99 99 99 99;purse 1 1 1 1 1 1 1 1").due("change(2500)", 99 + 99 + 99 + 84 + 1).due("change(8)", 1)
            .due("piece(8, 7)", 1);

        Sentences.promise(17, "-2: there is none; NONE for others");
        Asked.till("kinds 1 500;float 98 5").due("change(2499)", -2).due("change(99)", -2).due("change(98)", 98).due("change(2501)", NONE)
            .due("change(-1)", NONE).due("change(MAX)", NONE).due("change(MIN)", NONE);
        Asked.till("kinds 1;purse 9").due("change(0)", 0).due("change(1)", -2).due("change(2500)", -2);
        Asked.till("kinds 1 500;float 99 99").due("change(2501)", NONE);
        // all there is, and one more
        Asked.till("kinds 1 3;float 2 2").due("change(8)", 4).due("change(9)", -2);
    }

    private static void piece() {
        Sentences.promise(18, "How many PIECES of a KIND that CHANGE has");
        Asked.till("kinds 1 500;float 99 99").each("piece(2500, K)", 0, 5, NONE).each("piece(2099, K)", 99, 4, NONE).each("piece(0, K)", 0, 0, NONE);

        Sentences.promise(18, "-2, NONE likewise (and without that KIND)");
        Asked.till("kinds 2 5;float 1 9").due("piece(1, 0)", -2).due("piece(2500, 1)", -2).due("piece(2501, 0)", NONE).due("piece(-1, 0)", NONE)
            .due("piece(MAX, 0)", NONE).due("piece(MIN, 1)", NONE).due("piece(7, 2)", NONE).due("piece(7, -1)", NONE).due("piece(7, MAX)", NONE)
            .due("piece(7, MIN)", NONE).due("piece(1, 2)", NONE).due("piece(1, -1)", NONE).due("piece(0, 2)", NONE);
    }

    // ---- SETTLED, promise 19 ----

    private static void settledTerms() {
        Sentences.terms("that what is given is just the PRICE above what is returned, the fewest in all");
        Asked.till("kinds 2 5;float 9 9;purse 9 9").due("settle(1, NONE)", 3).each("settle(1, K)", -2, 1).due("settle(3, NONE)", 2)
            .each("settle(3, K)", -1, 1);
        Asked.till("kinds 2 5;float 0 9;purse 9 0").due("settle(1, NONE)", 4).each("settle(1, K)", 3, -1).due("settle(2, NONE)", 1);

        Sentences.terms("of several the row with the most given (the fewest returned) of the greatest KIND, then of the next one, and so on");
        // 10 less 2, and 5 3
        Asked.till("kinds 2 3 5 10;float 9 9 9 9;purse 9 9 9 9").due("settle(8, NONE)", 2).each("settle(8, K)", -1, 0, 0, 1);
        // 8 9 less 10, and 2 2 3
        Asked.till("kinds 2 3 8 9 10;float 0 0 0 0 1;purse 2 1 1 1 0").due("settle(7, NONE)", 3).each("settle(7, K)", 2, 1, 0, 0, 0);
        // 100 10 less 2, and 100 5 3
        Asked.till("kinds 2 3 5 10 100;float 9 9 9 9 9;purse 9 9 9 9 9").due("settle(108, NONE)", 3).each("settle(108, K)", -1, 0, 0, 1, 1);
        // the same below a greater one that is returned: 500 less 300, and 10 less 2 or 5 3
        Asked.till("kinds 2 3 5 10 300 500;float 9 0 0 0 9 0;purse 0 9 9 9 0 9").due("settle(208, NONE)", 4)
            .each("settle(208, K)", -1, 0, 0, 1, -1, 1);
    }

    private static void settledWithin2000() {
        Sentences.terms("Reckoned KIND by KIND, from the least one on, what is given less what is returned is never beyond 2000 either way");
        // 50 of 40 returned are 2000, 87 of 23 are 2001; nothing else comes to these prices
        Asked.till("kinds 40 499;float 50 0;purse 0 5").due("settle(495, NONE)", 55).each("settle(495, K)", -50, 5).due("sell(495)", 55);
        Asked.till("kinds 23 500;float 87 0;purse 0 5").due("settle(499, NONE)", -100).due("settle(499, 0)", -100).leaves("sell(499)", -2);
        Asked.till("kinds 40 499;float 0 4;purse 50 0").due("settle(4, NONE)", 54).each("settle(4, K)", 50, -4).due("sell(4)", 54);
        Asked.till("kinds 23 500;float 0 4;purse 87 0").due("settle(1, NONE)", -100).leaves("sell(1)", -2);
        // from the least one on: the other way round the sums stay far below
        Asked.till("kinds 499 500;float 4 0;purse 0 4").due("settle(4, NONE)", 8);
        Asked.till("kinds 499 500;float 0 4;purse 5 0").due("settle(495, NONE)", -100);
        Asked.till("kinds 400 500;float 0 4;purse 5 0").due("settle(500, NONE)", 8).due("settle(1000, NONE)", 7);
    }

    private static void settle() {
        Sentences.promise(19, "How a PRICE (1 to 1000) is SETTLED, kind NONE: how many PIECES in all");
        Asked.till("kinds 1 500;float 9 9;purse 9 9").due("settle(1, NONE)", 1).due("settle(1000, NONE)", 2).due("settle(999, NONE)", 3);

        Sentences.promise(19, "else: how many of that KIND are given (below 0: returned)");
        Asked.till("kinds 1 500;float 9 9;purse 9 9").each("settle(1, K)", 1, 0).each("settle(1000, K)", 0, 2).each("settle(999, K)", -1, 2);
        // one there, one given, one returned
        Asked.till("kinds 2 5;float 1 0;purse 0 1").due("settle(3, NONE)", 2).each("settle(3, K)", -1, 1).due("settle(1, NONE)", -100)
            .due("settle(5, NONE)", 1);
        Asked.till("kinds 2 5;float 0 1;purse 3 0").due("settle(1, NONE)", 4).each("settle(1, K)", 3, -1).due("settle(3, NONE)", -100)
            .due("settle(2, NONE)", 1);
        // 99 returned are -99, which is not -100
        Asked.till("kinds 1 100;float 99 0;purse 0 1").due("settle(1, NONE)", 100).each("settle(1, K)", -99, 1);
        Asked.till("kinds 1;purse 99").due("settle(99, 0)", 99).due("settle(99, NONE)", 99).due("settle(100, NONE)", -100);
        Asked.till(EIGHT + ";purse 0 0 0 0 0 0 0 1").due("settle(8, 7)", 1).due("settle(8, 8)", -1000);

        Sentences.promise(19, "-100: it cannot be; -1000 without these");
        Asked.till("kinds 2 4;float 9 9;purse 9 9").due("settle(1, NONE)", -100).due("settle(1, 0)", -100).due("settle(999, 1)", -100)
            .due("settle(55, NONE)", -100).due("settle(56, NONE)", -100).due("settle(54, NONE)", 18).due("settle(0, NONE)", -1000)
            .due("settle(1001, NONE)", -1000).due("settle(-1, NONE)", -1000).due("settle(MAX, NONE)", -1000).due("settle(MIN, 0)", -1000)
            .due("settle(2, 2)", -1000).due("settle(2, -2)", -1000).due("settle(2, MAX)", -1000).due("settle(2, MIN)", -1000)
            .due("settle(1, 2)", -1000).due("settle(1, -2)", -1000);
    }

    // ---- promises 20 to 22 ----

    private static void ways() {
        Sentences.promise(20, "In how many ways an AMOUNT (0 to 2500) could be taken out of the TILL (rows of PIECES by KINDS)");
        Asked.till("kinds 1 2 5;float 5 2 1").each("ways(K)", 1, 1, 2, 2, 3, 4, 3, 4, 3, 4, 3, 2, 2).due("ways(13)", 1).due("ways(14)", 1)
            .due("ways(15)", 0).due("ways(2500)", 0);
        Asked.till("kinds 500;float 5").due("ways(2500)", 1).due("ways(2499)", 0).due("ways(2000)", 1);
        Asked.till("kinds 1 500;float 99 99").due("ways(2500)", 1).due("ways(2099)", 1).due("ways(2499)", 0);
        Asked.till("kinds 1").due("ways(0)", 1).due("ways(1)", 0);
        // more than an int holds
        Asked.till(EIGHT + ";float 99 99 99 99 99 99 99 99").due("ways(1782)", 9350685138172L).due("ways(2500)", 2283868465722L).due("ways(0)", 1)
            .due("ways(1)", 1);

        Sentences.promise(20, "NONE for others");
        Asked.till("kinds 1 500;float 99 99").due("ways(-1)", NONE).due("ways(2501)", NONE).due("ways(MAX)", NONE).due("ways(MIN)", NONE);
        Asked.fresh().due("ways(2500)", 0).due("ways(2501)", NONE).due("ways(-1)", NONE);
    }

    private static void gap() {
        Sentences.promise(21, "AMOUNTS of 0 to 2500 for which there is no CHANGE, what 0: the least (-2: none), 1: how many");
        Asked.till("kinds 1 50;float 50 49").each("gap(K)", -2, 0);
        Asked.till("kinds 1 50;float 49 49").each("gap(K)", 2500, 1);
        Asked.till("kinds 1 50;float 48 49").each("gap(K)", 49, 51);
        Asked.till("kinds 1;float 99").each("gap(K)", 100, 2401);
        Asked.till("kinds 2;float 1").each("gap(K)", 1, 2499);
        Asked.till("kinds 500;float 99").each("gap(K)", 1, 2495);
        Asked.till("kinds 1").each("gap(K)", 1, 2500);
        Asked.till("kinds 63 64 65;float 9 9 9").each("gap(K)", 1, 2149);
        Asked.till("kinds 63 65;float 1 1").each("gap(K)", 1, 2497);
        Asked.till("kinds 127 128 129 500;float 5 5 5 3").each("gap(K)", 1, 2111);
        Asked.till("kinds 1 64;float 63 38").each("gap(K)", 2496, 5).act("put(0, 1, 39)").each("gap(K)", -2, 0).act("put(0, 0, 62)")
            .each("gap(K)", 63, 39);
        // 2501 and more do not count
        Asked.till("kinds 1 100;float 99 25").each("gap(K)", -2, 0);

        Sentences.promise(21, "NONE for others");
        Asked.till("kinds 1;float 9").due("gap(-1)", NONE).due("gap(2)", NONE).due("gap(MAX)", NONE).due("gap(MIN)", NONE);
        Asked.fresh().due("gap(2)", NONE).due("gap(-1)", NONE);
    }

    private static void scarce() {
        Sentences.promise(22, "The KIND of which one PIECE more in the TILL would leave the fewest such AMOUNTS, if that are fewer than now (of several the first)");
        // 2500 alone is lacking, and one more of either would do
        Asked.till("kinds 1 50;float 49 49").each("scarce(K)", 0, 0);
        // a five more does for 14, 15 and 16 and 4, a one more for 4, 9, 14
        Asked.till("kinds 1 5;float 3 2").each("scarce(K)", 1, 2501 - 16);
        Asked.till("kinds 2 4;float 0 0").each("scarce(K)", 0, 2499);
        Asked.till(EIGHT + ";float 1 1 1 1 1 1 1 1").each("scarce(K)", 7, 2500 - 36 - 8);

        Sentences.promise(22, "what 0: which, 1: how many they would be; -2: none (of KINDS with 99 nothing is asked)");
        Asked.till("kinds 1 50;float 50 49").each("scarce(K)", -2, -2);
        Asked.till("kinds 500;float 5").each("scarce(K)", -2, -2);
        Asked.till("kinds 500;float 4").each("scarce(K)", 0, 2495);
        Asked.till("kinds 1;float 99").each("scarce(K)", -2, -2);
        Asked.till("kinds 1;float 98").each("scarce(K)", 0, 2401);
        // of twos there are 99; a three more does little, but more than none
        Asked.till("kinds 2 100;float 99 0").each("scarce(K)", 1, 2501 - 150);
        Asked.till("kinds 1 2;float 99 99").each("scarce(K)", -2, -2);
        Asked.till("kinds 1 2;float 98 99").each("scarce(K)", 0, 2500 - 297);

        Sentences.promise(22, "NONE for others");
        Asked.till("kinds 1;float 9").due("scarce(-1)", NONE).due("scarce(2)", NONE).due("scarce(MAX)", NONE).due("scarce(MIN)", NONE);
        Asked.fresh().due("scarce(2)", NONE).due("scarce(-1)", NONE);
    }

    // ---- promises 31 and 32 ----

    private static void pays() {
        Sentences.promise(31, "would best pay a PRICE alone (nothing returned): the fewest PIECES that are together just it, kind NONE: how many, else: of that KIND");
        Asked.till("kinds 1 500;float 0 0;purse 1 2").due("pays(1, NONE)", 1).due("pays(1000, NONE)", 2).each("pays(1000, K)", 0, 2)
            .due("pays(501, NONE)", 2);
        Asked.till("kinds 3 4 5;purse 1 2 1").due("pays(8, NONE)", 2).each("pays(8, K)", 1, 0, 1).due("pays(16, NONE)", 4);
        Asked.till(EIGHT + ";purse 0 0 0 0 0 0 0 1").due("pays(8, 7)", 1).due("pays(8, 8)", NONE);

        Sentences.promise(31, "-2: none are; NONE without these");
        Asked.till("kinds 2 500;float 99 99;purse 1 2").due("pays(1, NONE)", -2).due("pays(1, 1)", -2).due("pays(498, NONE)", -2)
            .due("pays(999, NONE)", -2).due("pays(0, NONE)", NONE).due("pays(1001, NONE)", NONE).due("pays(1002, NONE)", NONE)
            .due("pays(-1, 0)", NONE).due("pays(MAX, 0)", NONE).due("pays(MIN, 0)", NONE).due("pays(2, 2)", NONE).due("pays(2, -2)", NONE)
            .due("pays(2, MAX)", NONE).due("pays(2, MIN)", NONE).due("pays(1, 2)", NONE).due("pays(1, -2)", NONE);
        // what lies on the tray is not in the purse; the whole purse, and one more
        Asked.till("kinds 2;float 9;purse 3").due("pays(6, NONE)", 3).act("hand(0)").due("pays(6, NONE)", -2).due("pays(4, NONE)", 2)
            .due("pays(5, NONE)", -2);
    }

    private static void swap() {
        Sentences.promise(32, "Whether so many PIECES of a KIND (1 to 99) could be changed in the TILL into PIECES of lesser KINDS: how many these are");
        Asked.till("kinds 5 20 25;float 99 99 99;purse 0 1 99").due("swap(2, 1)", 2).due("swap(2, 99)", 198).due("swap(2, 0)", NONE)
            .due("swap(2, 100)", NONE).due("swap(1, 1)", 4);
        Asked.till(EIGHT + ";float 0 0 1 1 1 1 1 1;purse 0 0 0 0 0 0 0 1").due("swap(7, 1)", 2).due("swap(8, 1)", NONE);

        Sentences.promise(32, "(CHANGE by lesser KINDS alone)");
        Asked.till("kinds 10 20;float 1 99;purse 0 9").due("swap(1, 1)", -2).act("put(0, 0, 2)").due("swap(1, 1)", 2);
        Asked.till("kinds 1 5;float 99 99;purse 9 9").due("swap(0, 1)", -2).due("swap(0, 9)", -2);

        Sentences.promise(32, "-2: they could not; -3: the PURSE has not so many");
        Asked.till("kinds 1 5;float 20 9;purse 9 3").due("swap(1, 3)", 15).due("swap(1, 4)", -3).due("swap(1, 5)", -2).act("put(1, 1, 4)")
            .due("swap(1, 4)", 20).act("put(0, 0, 19)").due("swap(1, 4)", -2).act("put(1, 1, 0)").due("swap(1, 3)", -3).due("swap(1, 4)", -2);

        Sentences.promise(32, "NONE without these, or if they are worth more than 2500");
        Asked.till("kinds 50 500;float 50 0;purse 99 99").due("swap(1, 5)", 50).due("swap(1, 6)", NONE).due("swap(1, 99)", NONE)
            .due("swap(0, 50)", -2).due("swap(0, 51)", NONE).due("swap(0, MAX)", NONE).due("swap(0, MIN)", NONE).due("swap(0, -1)", NONE)
            .due("swap(-1, 1)", NONE).due("swap(2, 1)", NONE).due("swap(MAX, 1)", NONE).due("swap(MIN, 1)", NONE);
        // 61 of 41 are 2501; 2^26 + 1 of 64 would be 64 if that wrapped around
        Asked.till("kinds 1 41;float 99 99;purse 99 99").due("swap(1, 61)", NONE).due("swap(1, 60)", -2);
        Asked.till("kinds 1 64;float 99 99;purse 99 99").due("swap(1, 67108865)", NONE).due("swap(1, 1)", 64);
    }

    // ---- promises 34 to 36 ----

    private static void dearest() {
        Sentences.promise(34, "Of AMOUNTS of 0 to 2500 for which there is CHANGE: what 0: the most PIECES that one has, 1: the least with so many");
        Asked.till("kinds 1;float 99").each("dearest(K)", 99, 99);
        Asked.till("kinds 50;float 99").each("dearest(K)", 50, 2500);
        Asked.till("kinds 500;float 5").each("dearest(K)", 5, 2500);
        Asked.till("kinds 500;float 4").each("dearest(K)", 4, 2000);
        Asked.till("kinds 99 100;float 99 99").each("dearest(K)", 25, 2475);
        Asked.till("kinds 1 5;float 3 2").each("dearest(K)", 5, 13);
        Asked.till("kinds 1 5").each("dearest(K)", 0, 0);

        Sentences.promise(34, "NONE for others");
        Asked.till("kinds 1;float 9").due("dearest(-1)", NONE).due("dearest(2)", NONE).due("dearest(MAX)", NONE).due("dearest(MIN)", NONE);
        Asked.fresh().each("dearest(K)", 0, 0, NONE).due("dearest(-1)", NONE);
    }

    private static void share() {
        Sentences.promise(35, "PIECES of CHANGE of all these AMOUNTS together by how many these are, as bits of a double");
        Asked.till("kinds 500;float 99").due("share()", Double.doubleToLongBits(15.0 / 6));
        Asked.till("kinds 50;float 99").due("share()", Double.doubleToLongBits(25.0));
        Asked.till("kinds 99 100;float 99 99").due("share()", Double.doubleToLongBits(5850.0 / 351));
        Asked.till("kinds 1 3 4;float 2 2 2").due("share()", Double.doubleToLongBits(46.0 / 17));
        Asked.till("kinds 1 2 5 10 20 50 100 200;float 9 9 9 9 9 9 9 9").due("share()", Double.doubleToLongBits(25016.0 / 2501));
        Asked.till("kinds 1;float 1").due("share()", Double.doubleToLongBits(0.5));
        Asked.till("kinds 1;float 2").due("share()", Double.doubleToLongBits(1.0));
        // 0 alone, for which there are none: 0.0
        Asked.till("kinds 1 5").due("share()", 0);
        Asked.fresh().due("share()", 0);
    }

    private static void greedy() {
        Sentences.promise(36, "Going by the greatest KIND first (as many as fit and there are), then the next one, and so on");
        Asked.till("kinds 1 5 10;float 99 99 99").each("greedy(K)", -2, 0);
        Asked.till("kinds 1 3 4;float 9 9 0").each("greedy(K)", -2, 0);

        Sentences.promise(36, "AMOUNTS of 0 to 2500 for which there is CHANGE, but that comes to none, or to more PIECES, what 0: the least (-2: none), 1: how many");
        // 4 1 1 are more than 3 3; without ones it comes to none; 600, 900, .. and 2500 itself
        Asked.till("kinds 1 3 4;float 2 2 1").each("greedy(K)", 6, 1);
        Asked.till("kinds 1 3 4;float 0 2 1").each("greedy(K)", 6, 1);
        Asked.till("kinds 300 400;float 99 99").each("greedy(K)", 600, 10);
        Asked.till("kinds 10 25;float 99 99").each("greedy(K)", 30, 199);
        Asked.till("kinds 2 5;float 9 9").each("greedy(K)", 6, 23);
        Asked.till("kinds 1").each("greedy(K)", -2, 0);

        Sentences.promise(36, "NONE for others");
        Asked.till("kinds 1;float 9").due("greedy(-1)", NONE).due("greedy(2)", NONE).due("greedy(MAX)", NONE).due("greedy(MIN)", NONE);
        Asked.fresh().each("greedy(K)", -2, 0, NONE).due("greedy(-1)", NONE);
    }

    // ---- promises 40 to 42 ----

    private static void even() {
        Sentences.promise(40, "Whether CHANGE for an AMOUNT (0 to 2500) is there yet if CHANGE for it was taken out of the TILL so many times (0 to 20): how many PIECES that next one has");
        Asked.till("kinds 1;float 99").due("even(4, 20)", 4).due("even(1, 20)", 1).due("even(0, 20)", 0).due("even(0, 0)", 0).due("even(99, 0)", 99);
        Asked.till("kinds 500;float 10").due("even(2500, 0)", 5).due("even(2500, 1)", 5).due("even(2500, 2)", -2).due("even(500, 9)", 1)
            .due("even(500, 10)", -2);
        Asked.till("kinds 1 5;float 12 1").due("even(5, 0)", 1).due("even(5, 1)", 5).due("even(5, 2)", 5).due("even(5, 3)", -2);
        Asked.till(EIGHT + ";float 8 0 0 0 0 0 0 20").due("even(8, 19)", 1).due("even(8, 20)", 8);

        Sentences.promise(40, "-2: it is not, or that could not be");
        Asked.till("kinds 1;float 99").due("even(5, 18)", 5).due("even(5, 19)", -2).due("even(5, 20)", -2).due("even(100, 0)", -2)
            .due("even(100, 20)", -2).due("even(2500, 1)", -2).due("even(50, 1)", -2).due("even(50, 2)", -2);

        Sentences.promise(40, "NONE for others");
        Asked.till("kinds 1 500;float 99 99").due("even(-1, 0)", NONE).due("even(2501, 0)", NONE).due("even(MAX, 0)", NONE).due("even(MIN, 0)", NONE)
            .due("even(1, -1)", NONE).due("even(1, 21)", NONE).due("even(0, 21)", NONE).due("even(1, MAX)", NONE).due("even(1, MIN)", NONE);
        Asked.fresh().due("even(0, 0)", 0).due("even(0, 21)", NONE).due("even(2501, 0)", NONE);
    }

    private static void total() {
        Sentences.promise(41, "What 0: VALUES of all in the TILL, 1: in the PURSE, 2: in the SAFE, 3: on the TRAY, 4: of all that LIMITS are");
        Asked.till("kinds 2 5;float 3 4;purse 1 2;limit 2 6").act("hand(1)").act("bank()").each("total(K)", 24, 7, 2, 5, 34, NONE);
        Asked.till("kinds 1 2").each("total(K)", 0, 0, 0, 0, 297, NONE);
        Asked.till("kinds 493 494 495 496 497 498 499 500;float 99 99 99 99 99 99 99 99;purse 99 99 99 99 99 99 99 99")
            .each("total(K)", 393228, 393228, 0, 0, 393228).act("hand(7)").act("hand(7)").act("hand(7)").act("hand(7)").act("hand(7)")
            .due("total(3)", 2500).due("total(1)", 390728);

        Sentences.promise(41, "NONE for others");
        Asked.till("kinds 1;float 9").due("total(-1)", NONE).due("total(5)", NONE).due("total(MAX)", NONE).due("total(MIN)", NONE);
        Asked.fresh().each("total(K)", 0, 0, 0, 0, 0, NONE).due("total(-1)", NONE);
    }

    private static void count() {
        Sentences.promise(42, "What 0: KINDS, 1: DAYS, 2: SALES, 3: PIECES in the TILL, 4: PIECES on the TRAY, 5: ACTS that can be UNDONE, 6: bytes of the TAPE");
        Asked.till("kinds 2 5 7;float 3 4 5;purse 1 2 0;day;sale 2:2;day;sale 1:2;sale 1:5").act("hand(0)").act("hand(1)").act("feed(1, 2, 3, 4, 5)")
            .act("end(19)").each("count(K)", 3, 2, 3, 12, 2, 2, 19);
        Asked.till(EIGHT + ";float 99 99 99 99 99 99 99 99;purse 0 0 0 0 0 0 0 5").act("hand(7)").act("hand(7)").act("hand(7)").act("hand(7)")
            .act("hand(7)").act("drawn(1, 10)").act("drawn(2, 10)").act("drawn(3, 10)").act("drawn(4, 8)").act("drawn(4, 2)").act("put(0, 0, 0)")
            .on(" ".repeat(400)).each("count(K)", 8, 5, 40, 693, 5, 10, 400);

        Sentences.promise(42, "7: SHELVES on which something is KEPT, as bits");
        Asked.till("kinds 1").due("count(7)", 0).act("keep(0)").due("count(7)", 1).act("keep(1)").due("count(7)", 3).act("keep(0)")
            .due("count(7)", 3);
        Asked.fresh().due("count(7)", 0).act("keep(1)").due("count(7)", 2);

        Sentences.promise(42, "8: KINDS of which the TILL has more than their LIMIT, as bits, 9: less");
        Asked.till("kinds 1 2 3;float 4 5 6;limit 5 5 5").due("count(8)", 4).due("count(9)", 1).act("put(0, 0, 5)").due("count(9)", 0)
            .act("put(0, 2, 5)").due("count(8)", 0).act("put(0, 1, 6)").due("count(8)", 2).act("put(0, 1, 4)").due("count(9)", 2);
        Asked.till(EIGHT + ";float 99 99 99 99 99 99 99 99;limit 0 0 0 0 0 0 0 98").due("count(8)", 255).due("count(9)", 0);
        Asked.till(EIGHT).due("count(8)", 0).due("count(9)", 255);
        Asked.till("kinds 1;limit 0").due("count(8)", 0).due("count(9)", 0);

        Sentences.promise(42, "NONE for others");
        Asked.till("kinds 1;float 9").due("count(-1)", NONE).due("count(10)", NONE).due("count(MAX)", NONE).due("count(MIN)", NONE);
        Asked.fresh().due("count(-1)", NONE).due("count(10)", NONE);
    }

    private static void nothingChanges() {
        Sentences.terms("Nothing is promised beyond the answers and state changes described above");
        Asked.till("kinds 1 5;float 4 2;purse 9 3;limit 1 9").act("hand(1)").act("keep(1)").on("kinds 3").leaves("kind(0, 1)", 4)
            .leaves("change(9)", 5).leaves("piece(9, 0)", 4).leaves("settle(9, 0)", -1).leaves("ways(9)", 1).leaves("gap(0)", 15)
            .leaves("scarce(0)", 1).leaves("pays(9, 0)", 4).leaves("swap(1, 1)", -2).leaves("dearest(0)", 6)
            .leaves("share()", Double.doubleToLongBits(45.0 / 15)).leaves("greedy(1)", 0).leaves("even(4, 1)", -2).leaves("total(3)", 5)
            .leaves("count(8)", 1).leaves("letter(2)", 'n').leaves("bags(1)", 1);
    }

    private static void eightKinds() {
        Sentences.terms("KINDS 0, 1, .. (8 at most) of PIECES");
        Asked.till(EIGHT + ";float 9 9 9 9 9 9 9 9;purse 9 9 9 9 9 9 9 9").due("change(8)", 1).due("change(324)", 72).due("change(325)", -2)
            .each("piece(324, K)", 9, 9, 9, 9, 9, 9, 9, 9).due("settle(324, NONE)", 72).due("settle(8, 7)", 1).due("ways(8)", 22).due("ways(324)", 1)
            .each("gap(K)", 325, 2176).each("scarce(K)", 7, 2168).due("pays(324, NONE)", 72).each("pays(8, K)", 0, 0, 0, 0, 0, 0, 0, 1)
            .due("swap(7, 1)", 2).each("dearest(K)", 72, 324).each("greedy(K)", -2, 0).due("even(8, 8)", 1).due("even(8, 9)", 2)
            .each("total(K)", 324, 324, 0, 0, 3564).due("count(3)", 72).due("count(9)", 255);
    }

    /** No answer hangs on what was asked before, whatever comes between: another till with values like it, too. */
    private static void nothingAskedCounts() {
        Sentences.terms("Nothing is promised beyond the answers and state changes described above");
        String[] calls = {
            "change(38)", "change(30)", "change(18)", "change(7)", "change(2500)", "piece(18, 2)", "settle(8, NONE)", "settle(8, 0)",
            "settle(990, NONE)", "settle(1, NONE)", "settle(36, NONE)", "pays(27, NONE)", "pays(18, NONE)", "pays(8, 0)", "swap(3, 1)",
            "swap(2, 1)", "dearest(0)", "share()", "greedy(1)", "even(9, 1)", "gap(1)", "scarce(1)", "ways(18)", "day(0, 3)",
            "trim(0, NONE)", "needs(0, NONE)", "letter(NONE)", "letter(60)"
        };
        String[] acts = {"", "put(0, 3, 0)", "put(1, 3, 4)", "put(0, 2, 0)", "live(0)", "sell(8)", "undo()", "back(0)", "back(1)"};
        String[] others = {"", "put(0, 0, 3)", "put(0, 2, 3)", "put(1, 0, 3)", "put(1, 2, 3)", "put(0, 2, 0)", "put(1, 0, 0)", "back(0)"};
        Asked.till("kinds 3 4 6 10 20;float 3 4 2 4 2;purse 3 3 2 2 1;day;sale 2:20").act("keep(0)")
            .on("kinds 3 4 5 10;float 3 4 2 4;purse 3 3 2 2;day;sale 2:10").act("tell()").act("keep(1)")
            .on("kinds 3 4 5 10 20;float 3 4 2 4 2;purse 3 3 2 2 1;day;sale 2:20").act("tell()").act("put(0, 4, 9)").unmoved(acts, calls);
        // another least kind alone; as many in the purse as in the till; none in the till; none in the purse
        String even = "kinds 3 5 9 20;float 2 2 2 2;purse 2 2 2 2;day;sale 2:20";
        Asked.till("kinds 2 5 9 20;float 2 2 2 2;purse 2 2 2 2;day;sale 2:20").act("keep(0)").on(even).act("tell()").unmoved(others, calls);
        Asked.till(even).act("keep(0)").on("kinds 3 5 9 20;purse 2 2 2 2;day;sale 2:20").act("tell()").unmoved(others, calls);
        Asked.till(even).act("keep(0)").on("kinds 3 5 9 20;float 2 2 2 2;day;sale 2:20").act("tell()").unmoved(others, calls);
        Asked.till(even).act("put(0, 2, 0)").act("put(1, 0, 0)").act("keep(0)").on(even).act("tell()").unmoved(new String[] {"back(0)"}, calls);
        // all values others; all rows others
        String ones = " 1 1 1 1 1 1 1 1";
        String twos = " 2 2 2 2 2 2 2 2";
        String[] shelves = {"", "back(0)", "back(1)"};
        Asked.till("kinds 2 3 4 5 6 7 8 9;float" + ones + ";purse" + ones + ";day").act("keep(0)")
            .on(EIGHT + ";float" + twos + ";purse" + ones + ";day").act("tell()").act("keep(1)")
            .on(EIGHT + ";float" + ones + ";purse" + ones + ";day").act("tell()").unmoved(shelves, calls);
        Asked.till(EIGHT + ";float" + twos + ";purse" + twos + ";day").act("keep(0)").on(EIGHT + ";float" + ones + ";purse" + twos + ";day")
            .act("tell()").act("keep(1)").on(EIGHT + ";float" + ones + ";purse" + ones + ";day").act("tell()").unmoved(shelves, calls);
        Asked.till(EIGHT + ";purse 0 0 0 0 0 0 0 1;day").act("keep(0)").on(EIGHT + ";float" + ones + ";purse 0 0 0 0 0 0 0 1;day").act("tell()")
            .unmoved(new String[] {"back(0)"}, calls);
        // so much that all of 2500 and of 2000 either way is asked for
        Asked.till("kinds 3 47 499 500;float 99 99 9 9;purse 99 99 9 9;day;sale 2:500 500 500 500 500")
            .unmoved(new String[] {"", "sell(999)"}, calls);
    }
}
