/**
 * The boundary sentences about the tape and the text (promises 1 to 4 and 37): each test names its sentence.
 * With the path of the document as argument the sentences are looked for in it, too.
 */
public final class BoundsOfTextTest {
    private static final int NONE = TillFloat.NONE;
    private static final String FORTY = "kinds1" + (";day" + ";sale1:1".repeat(8)).repeat(5);

    public static void main(String[] args) throws Exception {
        Sentences.open(args);
        aNewObject();
        lastCall();
        feed();
        end();
        tell();
        kindsOfText();
        partsOfText();
        daysOfText();
        wordsNumbersBlanks();
        faultPlaces();
        faultsOfBytesAndWords();
        almostWords();
        textEnds();
        faultsOfNumbers();
        faultsOfTooMany();
        faultsOfTooLittle();
        leastOfOnePlace();
        letter();
        Sentences.close("bounds of the text");
    }

    /** A till with something of all that a told text replaces and of all that it leaves. */
    private static Asked used() {
        return Asked.till("kinds 2 5;float 3 4;purse 1 2;limit 0 6;bag 7 8;day;sale 3:5").act("hand(0)").act("keep(1)").act("bank()")
            .act("put(1, 1, 7)");
    }

    private static void aNewObject() {
        Sentences.promise(1, "No KINDS.");
        Asked.fresh().each("count(K)", 0, 0, 0, 0, 0, 0, 0, 0, 0, 0, NONE).each("total(K)", 0, 0, 0, 0, 0, NONE).due("kind(0, 0)", NONE)
            .due("change(0)", 0).due("change(1)", -2).due("end(0)", 0).leaves("end(1)", NONE).leaves("undo()", NONE).leaves("tell()", -3);

        Sentences.terms("Without a TILL there are no KINDS.");
        Asked.fresh().leaves("put(0, 0, 1)", NONE).leaves("hand(0)", NONE).leaves("pay(1)", -2).leaves("sell(1)", -2).leaves("live(0)", NONE)
            .leaves("bank()", NONE).leaves("order(0, 1)", NONE).leaves("drawn(1, 1)", NONE).leaves("back(0)", -2).due("piece(0, 0)", NONE)
            .due("settle(1, NONE)", -100).due("settle(1, 0)", -1000).due("ways(0)", 1).due("ways(1)", 0).due("gap(0)", 1).due("gap(1)", 2500)
            .due("scarce(0)", -2).due("scarce(1)", -2).due("day(0, 0)", NONE).due("sale(0, 0, 0)", NONE).due("behind(0, 1, 0)", NONE)
            .due("lasts(0)", NONE).due("trim(0, NONE)", NONE).due("worst(0)", -2).due("bags(0)", NONE).due("mean(0)", NONE).due("pays(1, NONE)", -2)
            .due("pays(1, 0)", NONE).due("swap(0, 1)", NONE).due("needs(0, NONE)", NONE).due("dearest(0)", 0).due("dearest(1)", 0).due("share()", 0)
            .due("greedy(0)", -2).due("greedy(1)", 0).due("letter(NONE)", 0).due("letter(0)", -2).due("flow(0, 0)", NONE).due("gone(0, 0)", NONE)
            .due("even(0, 20)", 0).due("even(1, 0)", -2);
    }

    private static void lastCall() {
        Sentences.terms("An object is used for at most 512 calls after it has been made");
        TillFloat x = new TillFloat();
        Texts.feed(x, "kinds 2 5;float 3 4");
        x.tell();
        for (int call = 4; call <= 511; call++) {
            x.put(0, 1, call % 100);
        }
        Sentences.due("the 512th call, put(0, 1, 99)", 11, x.put(0, 1, 99));
    }

    // ---- promises 2 and 3 ----

    private static void feed() {
        Sentences.promise(2, "Twenty bytes come behind the TAPE, of each number the highest first");
        // "kinds 1 23 456;day  "
        Asked.fresh().due("feed(0x6b696e64, 0x73203120, 0x32332034, 0x35363b64, 0x61792020)", 20).due("tell()", 3).each("kind(K, 0)", 1, 23, 456)
            .due("count(1)", 1);
        // "kinds", and " 1 2" behind it
        Asked.fresh().on("kinds").due("feed(0x20312032, 0, 0, 0, 0)", 25).due("end(9)", 9).due("tell()", 2).each("kind(K, 0)", 1, 2);
        // a number below 0 begins with a byte above 127, which stands nowhere; the byte ahead of it and the one behind it do
        Asked.fresh().due("feed(0x6b696e64, 0x73203100, MIN, 0, 0)", 20).due("end(7)", 7).due("tell()", 1);
        Asked.fresh().on("kinds 1").due("feed(MIN, 0x20202020, 0, 0, 0)", 27).due("end(8)", 8).due("tell()", -2 - (8 * 7 + 1));
        Asked.fresh().on("kinds 1").due("feed(0x203220ff, -1, -1, -1, -1)", 27).due("end(10)", 10).due("tell()", 2);
        Asked.fresh().on("kinds 1").due("feed(0x203220ff, -1, -1, -1, -1)", 27).due("tell()", -2 - (8 * 10 + 1));
        Asked.fresh().due("feed(MIN, 0, 0, 0, MAX)", 20).due("tell()", -3);

        Sentences.promise(2, "how many it has; NONE, and none comes, if it would have more than 400");
        Asked full = Asked.fresh();
        for (int n = 20; n <= 400; n += 20) {
            full.due("feed(0x6b696e64, 0x73203120, 0x32202020, 0x20202020, 0x20202020)", n);
        }
        full.leaves("feed(1, 2, 3, 4, 5)", NONE).due("count(6)", 400).due("end(381)", 381).leaves("feed(1, 2, 3, 4, 5)", NONE).due("end(380)", 380)
            .due("feed(1, 2, 3, 4, 5)", 400).leaves("feed(0, 0, 0, 0, 0)", NONE).due("end(11)", 11).due("tell()", 2).due("feed(0, 0, 0, 0, 0)", 20);
    }

    private static void end() {
        Sentences.promise(3, "The TAPE has its first n bytes alone: n");
        Asked.fresh().on("kinds 1 2").due("end(9)", 9).due("end(7)", 7).due("count(6)", 7).due("tell()", 1);
        Asked.fresh().on("kinds 1 2").due("end(0)", 0).due("count(6)", 0).due("tell()", -3);
        Asked.fresh().due("end(0)", 0);
        Asked.fresh().on(" ".repeat(400)).due("end(400)", 400).due("end(399)", 399);

        Sentences.promise(3, "NONE, and nothing happens, if it has not so many, or n is below 0");
        Asked.fresh().leaves("end(1)", NONE).leaves("end(-1)", NONE);
        used().on("kinds 1 2").leaves("end(10)", NONE).leaves("end(-1)", NONE).leaves("end(MAX)", NONE).leaves("end(MIN)", NONE).due("end(8)", 8)
            .leaves("end(9)", NONE);
        Asked.fresh().on(" ".repeat(400)).leaves("end(401)", NONE).due("tell()", -2 - (8 * 400 + 1)).leaves("end(1)", NONE);
    }

    // ---- promise 4 ----

    private static void tell() {
        Sentences.promise(4, "The TAPE, which is empty then");
        Asked.fresh().on("kinds 1").due("tell()", 1).due("count(6)", 0).due("end(1)", NONE).due("tell()", -3);
        Asked.fresh().on("kinds 0").due("tell()", -2 - (8 * 6 + 2)).due("count(6)", 0).due("end(1)", NONE).due("tell()", -3);

        Sentences.promise(4, "tells a TILL in place of the one there was");
        used().on("kinds 7").due("tell()", 1).text("kinds 7;float 0;purse 0;limit 99;bag 10").due("count(1)", 0).due("count(2)", 0)
            .due("kind(1, 0)", NONE);
        used().on("kinds 2 5;day").due("tell()", 2).text("kinds 2 5;float 0 0;purse 0 0;limit 99 99;bag 10 10;day").due("day(0, 0)", 0);

        Sentences.promise(4, "(SAFE 0, the TRAY empty; nothing can be UNDONE; SHELVES stay)");
        used().due("kind(0, 6)", 3).due("kind(0, 5)", 1).due("count(5)", 3).on("kinds 2 5").due("tell()", 2).due("kind(0, 6)", 0).due("kind(0, 5)", 0)
            .due("count(4)", 0).due("total(2)", 0).due("count(5)", 0).leaves("undo()", NONE).due("count(7)", 2).due("back(0)", -2).due("back(1)", 2)
            .due("kind(0, 5)", 1).text("kinds 2 5;float 3 4;purse 0 2;limit 0 6;bag 7 8;day;sale 3:5");

        // nothing of a text told before, right or wrong, is left in the next one
        Sentences.promise(4, "tells a TILL in place of the one there was");
        used().on("kinds 2 5;day;sale 2:5 5;sale 1:2 2").due("tell()", 2).on("kinds 2 5;day;sale 2:2;sale 1:5").due("tell()", 2)
            .text("kinds 2 5;float 0 0;purse 0 0;limit 99 99;bag 10 10;day;sale 2:2;sale 1:5");
        used().on("kinds 7 8 9;float 1 1 1;purse 1 1 1;limit 1 1 1;bag 1 1 1;day;sale 1:9 9;day;sale 1:8;x").due("tell()", -2 - (8 * 86 + 1))
            .on("kinds 7 8 9;day;sale 1:7").due("tell()", 3).text("kinds 7 8 9;float 0 0 0;purse 0 0 0;limit 99 99 99;bag 10 10 10;day;sale 1:7")
            .due("count(1)", 1);
        used().on("kinds 2 5;day;sale 2:5 5;sale 2:5 5").due("tell()", 2).on("kinds 2 5").due("tell()", 2).due("drawn(0, 2)", 1)
            .each("sale(0, 0, K)", 1, 2, 1);

        Sentences.promise(4, "how many KINDS");
        Asked.fresh().on("kinds 500").due("tell()", 1).on("kinds 1 2 3 4 5 6 7 8").due("tell()", 8).due("count(0)", 8);

        Sentences.promise(4, "-2 - its FAULT, and but for the TAPE nothing happens");
        used().fault("^", 1).fault("kinds 9;float 9;purse 9;limit 9;bag 9;day;sale 1:9;^", 1).fault("kinds 9 99;float 9 9;day;sale 99:9 9 9 9 ^9", 4);
        Asked.fresh().fault("^", 1).fault("kinds 1;^da", 1);
        Asked.fresh().on("kinds 0").due("tell()", -2 - (8 * 6 + 2)).on("kinds 1").due("tell()", 1).on("kindz 1").due("tell()", -3).due("tell()", -3)
            .on("kinds 2 3").due("tell()", 2);
    }

    private static void kindsOfText() {
        Sentences.terms("KINDS 0, 1, .. (8 at most) of PIECES");
        Asked.till("kinds 1 2 3 4 5 6 7 8;day").each("kind(K, 0)", 1, 2, 3, 4, 5, 6, 7, 8, NONE).due("kind(NONE, 0)", NONE).due("count(0)", 8);
        Asked.till("kinds 1").each("kind(K, 0)", 1, NONE);

        Sentences.terms("of rising VALUES (1 to 500)");
        Asked.till("kinds 1 2 499 500").each("kind(K, 0)", 1, 2, 499, 500, NONE);
        used().fault("kinds ^0", 2).fault("kinds ^501", 2).fault("kinds 1 ^501", 2).fault("kinds 2 ^2", 2).fault("kinds 2 ^1", 2)
            .fault("kinds 500 ^500", 2);
    }

    private static void partsOfText() {
        Sentences.terms("THE TILL, THE PURSE (of a customer), THE TRAY, THE SAFE have so many of each (TILL, PURSE 0 to 99; TRAY 5 PIECES in all)");
        Asked.till("kinds 2 5;float 0 99;purse 99 0").each("kind(0, K)", 2, 0, 99).each("kind(1, K)", 5, 99, 0);
        used().fault("kinds 2 5;float ^100 0", 2).fault("kinds 2 5;float 0 ^100", 2).fault("kinds 2 5;purse ^100 0", 2)
            .fault("kinds 2 5;purse 0 ^100", 2);

        Sentences.terms("LIMIT 0 to 99 of each (99 at first), BAG 1 to 99 (10)");
        Asked.till("kinds 2 5;limit 0 99;bag 1 99").each("kind(0, K)", 2, 0, 0, 0, 1).each("kind(1, K)", 5, 0, 0, 99, 99);
        used().fault("kinds 2 5;limit ^100 0", 2).fault("kinds 2 5;limit 99 ^100", 2).fault("kinds 2 5;bag ^0 1", 2).fault("kinds 2 5;bag 1 ^0", 2)
            .fault("kinds 2 5;bag 1 ^100", 2).fault("kinds 2 5;bag ^100 1", 2);

        Sentences.terms("(each once at most; 0, 0, 99, 10 without)");
        Asked.till("kinds 2 5").text("kinds 2 5;float 0 0;purse 0 0;limit 99 99;bag 10 10").due("kind(1, 5)", 0).due("kind(1, 6)", 0);
        Asked.till("kinds 2 5;bag 1 2;limit 3 4;day;purse 5 6;sale 1:2;float 7 8")
            .text("kinds 2 5;float 7 8;purse 5 6;limit 3 4;bag 1 2;day;sale 1:2");
        used().fault("kinds 2;float 1;^float 1", 3).fault("kinds 2;purse 1;^purse 1", 3).fault("kinds 2;limit 1;^limit 1", 3)
            .fault("kinds 2;bag 1;^bag 1", 3);

        Sentences.terms("ROW: a NUMBER for each KIND");
        Asked.till("kinds 1 2 3 4 5 6 7 8;float 1 2 3 4 5 6 7 99").each("kind(K, 1)", 1, 2, 3, 4, 5, 6, 7, 99);
        used().fault("kinds 1 2;float 1^", 1).fault("kinds 1 2;float 1^;day", 1).fault("kinds 1 2;float 1 2 ^3", 1).fault("kinds 1 2;float^;", 1);
    }

    private static void daysOfText() {
        Sentences.terms("DAYS 0, 1, .. (5 at most) of SALES (40 of all DAYS)");
        Asked.till(FORTY).due("count(1)", 5).due("count(2)", 40).each("day(K, 0)", 8, 8, 8, 8, 8, NONE).due("day(NONE, 0)", NONE);
        Asked.till("kinds1;day" + ";sale1:1".repeat(40)).due("day(0, 0)", 40).due("count(2)", 40).due("sale(0, 39, 0)", 1)
            .due("sale(0, 40, 0)", NONE);
        Asked.till("kinds1;day;day;day;day;day").due("count(1)", 5).due("count(2)", 0).due("day(4, 0)", 0);
        Asked.till("kinds1").due("count(1)", 0).due("count(2)", 0).due("day(0, 0)", NONE);
        used().fault("kinds1;day;day;day;day;day;^day", 3).fault(FORTY + ";^day", 3).fault(FORTY + ";^sale1:1", 3)
            .fault("kinds1;day" + ";sale1:1".repeat(40) + ";^sale1:1", 3);

        Sentences.terms("a PRICE (1 to 1000), and what is given: 1 to 5 PIECES, worth no less");
        Asked.till("kinds 1 500;day;sale 1:1;sale 1000:500 500;sale 1:500 500 500 500 500;sale 5:1 1 1 1 1")
            .each("sale(0, K, 0)", 1, 1000, 1, 5, NONE).each("sale(0, K, 1)", 1, 1000, 2500, 5).each("sale(0, K, 2)", 1, 2, 5, 5);
        used().fault("kinds 1;day;sale ^0:1", 2).fault("kinds 500;day;sale ^1001:500 500 500", 2).fault("kinds 1;day;sale 1:^", 1)
            .fault("kinds 1;day;sale 1:^;", 1).fault("kinds 1;day;sale 5:1 1 1 1 1 ^1", 3).fault("kinds 1;day;sale 2:^1", 4)
            .fault("kinds 1;day;sale 6:1 1 1 1 ^1", 4);

        Sentences.terms("sale NUMBER : NUMBER { NUMBER } (of the DAY told last: PRICE, VALUES given)");
        Asked.till("kinds 1;day;day;sale 1:1;day;sale 1:1;sale 1:1 1").each("day(K, 0)", 0, 1, 2, NONE).due("sale(2, 1, 1)", 2);

        Sentences.terms("A TEXT of at most 400 bytes tells a TILL");
        Asked.fresh().on("kinds 1" + " ".repeat(393)).due("count(6)", 400).due("tell()", 1);
        Asked.fresh().on("kinds 1" + ";day;sale 1:1".repeat(4) + " ".repeat(337) + ";day").due("count(6)", 400).due("tell()", 1).due("count(1)", 5);
        Asked.fresh().on("kinds " + "0".repeat(393) + "8").due("count(6)", 400).due("tell()", 1).due("kind(0, 0)", 8);
    }

    private static void wordsNumbersBlanks() {
        Sentences.terms("WORDS are small letters, NUMBERS digits, as far as they go on");
        Asked.till("kinds1 20;float3 4;day;sale1:1 20").text("kinds 1 20;float 3 4;purse 0 0;limit 99 99;bag 10 10;day;sale 1:1 20");
        Asked.till("kinds 007;bag 000000000000000000000000000000099").due("kind(0, 0)", 7).due("kind(0, 4)", 99);
        used().fault("^kindskinds 1", 1).fault("^kind s 1", 1).fault("kinds 1;^days", 1).fault("kinds 1;^floata 1", 1).fault("kinds 1;^floatz 1", 1)
            .fault("kinds 1;float^` 1", 1).fault("kinds 1;float^{ 1", 1).fault("kinds 1;float^F 1", 1).fault("kinds 1;^Float 1", 1)
            .fault("kinds 1;^FLOAT 1", 1).fault("kinds 1;^`", 1).fault("kinds 1;^{", 1).fault("^`kinds 1", 1).fault("^{kinds 1", 1)
            .fault("kinds 1^/", 1).fault("kinds 1^:", 1).fault("kinds ^/", 1).fault("kinds ^:", 1).fault("kinds 1;day;sale ^/:1", 1)
            .fault("kinds 1;day;sale 1:1^/", 1).fault("kinds 1;day;sale 1:1^:", 1).fault("kinds ^-1", 1).fault("kinds ^+1", 1);

        Sentences.terms("blanks (32) stand between as one likes");
        Asked.till("  kinds  1  2  ;  float  3  4  ;  day  ;  sale  1  :  1  2  ;  day  ")
            .text("kinds 1 2;float 3 4;purse 0 0;limit 99 99;bag 10 10;day;sale 1:1 2;day");
        Asked.till("kinds1;day;sale1:1").due("sale(0, 0, 0)", 1);
        used().fault("kinds^\t1", 1).fault("kinds 1^\n", 1).fault("kinds 1^\u001f", 1).fault("kinds 1^!", 1).fault("^\u0000kinds 1", 1)
            .fault("kinds 1^\u00a0", 1).fault("kinds 1 2^\u0000", 1).fault("kinds 1^\u00ff", 1).fault("kinds 1;^fl oat 1", 1);
    }

    // ---- FAULT ----

    private static void faultPlaces() {
        Sentences.terms("of the first place along it that is wrong (0 the first byte), 8 times the place and");
        used().fault("^1", 1).fault("^x", 1).fault("^;kinds 1", 1).fault(" ^float 1", 1).fault("kinds 1;^x;float 1 2;kinds", 1)
            .fault("kinds ^0 501;x", 2).fault("kinds 1;float ^100;purse 100", 2).fault("kinds 1;day;sale 2:^1;sale 0:1", 4)
            .fault("kinds 1;day;day;day;day;day;^day;sale 0", 3).fault("kinds 1;day;sale 2:^1?", 4).fault("kinds 1;day;sale 2:^1;", 4);
        Asked.fresh().fault("kinds 1" + " ".repeat(392) + "^x", 1).fault("kinds 1;" + " ".repeat(392) + "^", 1)
            .fault("kinds 1;day;sale 2:" + " ".repeat(380) + "^1", 4).fault("kinds 1;bag" + " ".repeat(388) + "^0", 2)
            .fault("kinds 1;bag 1;" + " ".repeat(383) + "^bag", 3);
    }

    private static void faultsOfBytesAndWords() {
        Sentences.terms("1 a byte or WORD that cannot stand there (a sale ahead of any day, too)");
        used().fault("^kind 1", 1).fault("^Kinds 1", 1).fault("^kInds 1", 1).fault("kinds ^;", 1).fault("kinds ^x", 1).fault("kinds ^:1", 1)
            .fault("kinds 1^,2", 1).fault("kinds 1 ^float 1", 1).fault("kinds 1^day", 1).fault("kinds 1;^;day", 1).fault("kinds 1;^1", 1)
            .fault("kinds 1;^:", 1).fault("kinds 1;^kinds 2", 1).fault("kinds 1;^d", 1).fault("kinds 1;^purses 1", 1).fault("kinds 1;float ^x", 1)
            .fault("kinds 1;float 1^:", 1).fault("kinds 1;day ^1", 1).fault("kinds 1;day^:", 1).fault("kinds 1;day;sale ^:1", 1)
            .fault("kinds 1;day;sale 1 ^1", 1).fault("kinds 1;day;sale 1^;", 1).fault("kinds 1;day;sale 1:^:1", 1).fault("kinds 1;day;sale 1:1 ^:", 1)
            .fault("kinds 1;day;sale 1:1^day", 1).fault("kinds 1;^sale 1:1", 1).fault("kinds 1;float 1;^sale 1:1;day", 1).fault("kinds 1;^sale", 1)
            .fault("kinds 1;^sale 0:7", 1);
    }

    /** Each WORD with one letter another, one too few, one too many. */
    private static void almostWords() {
        Sentences.terms("1 a byte or WORD that cannot stand there");
        for (String word : new String[] {"kinds", "float", "purse", "limit", "bag", "day", "sale"}) {
            String ahead = word.equals("kinds") ? "^" : word.equals("sale") ? "kinds 1;day;^" : "kinds 1;^";
            for (int i = 0; i <= word.length(); i++) {
                String behind = word.substring(i);
                Asked.fresh().fault(ahead + word.substring(0, i) + "z" + behind + " 1", 1);
                if (!behind.isEmpty()) {
                    Asked.fresh().fault(ahead + word.substring(0, i) + "z" + behind.substring(1) + " 1", 1);
                    Asked.fresh().fault(ahead + word.substring(0, i) + behind.substring(1) + " 1", 1);
                }
            }
        }
    }

    private static void textEnds() {
        Sentences.terms("or the text ends (the place behind its last byte)");
        used().fault("^", 1).fault(" ^", 1).fault("   ^", 1).fault("kinds^", 1).fault("kinds  ^", 1).fault("kinds 1;^", 1).fault("kinds 1; ^", 1)
            .fault("kinds 1 2;float^", 1).fault("kinds 1 2;float 1^", 1).fault("kinds 1 2;float 1  ^", 1).fault("kinds 1;day;sale^", 1)
            .fault("kinds 1;day;sale 1^", 1).fault("kinds 1;day;sale 1 ^", 1).fault("kinds 1;day;sale 1:^", 1).fault("kinds 1;day;sale 1: ^", 1)
            .fault("kinds 1;bag^", 1).fault("kinds 1;limit^", 1).fault("kinds 1;purse ^", 1);
        Asked.fresh().fault("^", 1).fault(" ".repeat(400) + "^", 1);
    }

    private static void faultsOfNumbers() {
        Sentences.terms("2 a NUMBER (where it begins) that is not as told (VALUES not rising, no KIND's VALUE, too; a ROW's by its bounds)");
        used().fault("kinds ^000", 2).fault("kinds ^000501", 2).fault("kinds 3 4 ^4", 2).fault("kinds 3 4 ^3 5", 2).fault("kinds 10 ^9", 2)
            .fault("kinds 1 ^0", 2).fault("kinds 2;day;sale 1:^1", 2).fault("kinds 2;day;sale 1:^3", 2).fault("kinds 2;day;sale 1:2 ^0", 2)
            .fault("kinds 2;day;sale 1:^22", 2).fault("kinds 2;day;sale 1:2  ^020 2", 2).fault("kinds 2;day;sale ^000:2", 2)
            .fault("kinds 2;day;sale ^1001:2", 2).fault("kinds 1;bag ^00", 2).fault("kinds 1;float ^100", 2).fault("kinds 1;purse ^100", 2)
            .fault("kinds 1;limit ^100", 2).fault("kinds 1;bag ^100", 2);
        Asked.till("kinds 2;day;sale 00002:002").due("sale(0, 0, 0)", 2);

        Sentences.terms("2 a NUMBER (where it begins) that is not as told");
        // numbers that would be right if they wrapped around: 2^16 + 1, 2^32 + 1, 2^64 + 1 and 2^32 itself
        used().fault("kinds ^65537", 2).fault("kinds ^4294967297", 2).fault("kinds ^18446744073709551617", 2).fault("kinds 1;float ^4294967296", 2)
            .fault("kinds 1;bag ^18446744073709551617", 2).fault("kinds 1;day;sale ^4294967297:1", 2).fault("kinds 1;day;sale 1:^4294967297", 2)
            .fault("kinds 1;day;sale 1:^18446744073709551617", 2).fault("kinds ^2147483648", 2).fault("kinds 1;float ^2147483648", 2)
            .fault("kinds ^" + "9".repeat(394), 2).fault("kinds 1;limit ^99999999999999999999", 2);
    }

    private static void faultsOfTooMany() {
        Sentences.terms("3 a ninth VALUE, a sixth PIECE of a SALE (where it begins), the WORD of a sixth day, a 41st sale, of a float, purse, limit, bag told again");
        used().fault("kinds 1 2 3 4 5 6 7 8 ^9", 3).fault("kinds 1 2 3 4 5 6 7 8 ^500 501", 3).fault("kinds 1;day;sale 1:1 1 1 1 1  ^1", 3)
            .fault("kinds 1 2;day;sale 1:1 2 1 2 1 ^02;", 3).fault("kinds1;day;day;day;day;day; ^day", 3).fault(FORTY + "; ^sale 1:1", 3)
            .fault(FORTY + ";^sale", 3).fault("kinds 1;float 1;purse 1;limit 1;bag 1;^float 1", 3)
            .fault("kinds 1;float 1;purse 1;limit 1;bag 1;^purse", 3).fault("kinds 1;float 1;purse 1;limit 1;bag 1;^limit 100", 3)
            .fault("kinds 1;float 1;purse 1;limit 1;bag 1;^bag 0", 3).fault("kinds 1;float 0;^float 0", 3)
            .fault("kinds 1;limit 99;day; ^limit 99", 3);
    }

    private static void faultsOfTooLittle() {
        Sentences.terms("4 the last NUMBER of a SALE, if what is given is less than its PRICE");
        used().fault("kinds 1;day;sale 2:^1", 4).fault("kinds 1 2;day;sale 5:1 1  ^2  ", 4).fault("kinds 1 20;day;sale 22:20 ^1;day", 4)
            .fault("kinds 1;day;sale 1000:1 1 1 1 ^1", 4).fault("kinds 499;day;sale 1000:499 ^499", 4).fault("kinds 1;day;sale 2:^01", 4);
        Asked.till("kinds 1 20;day;sale 21:20 1").due("sale(0, 0, 1)", 21);
        Asked.till("kinds 200 500;day;sale 1000:200 200 200 200 200").due("sale(0, 0, 1)", 1000);
    }

    private static void leastOfOnePlace() {
        Sentences.terms("Of one place the least.");
        // a ninth VALUE that is not as told, a sixth PIECE of no KIND's VALUE, a last NUMBER that is no KIND's VALUE, a sixth that is too little
        used().fault("kinds 1 2 3 4 5 6 7 8 ^8", 2).fault("kinds 1 2 3 4 5 6 7 8 ^501", 2).fault("kinds 1 2 3 4 5 6 7 8 ^0", 2)
            .fault("kinds 1 3;day;sale 1:1 1 1 1 1 ^2", 2).fault("kinds 1 3;day;sale 9:1 ^2", 2).fault("kinds 1;day;sale 9:1 1 1 1 1 ^1", 3)
            .fault("kinds 1 3;day;sale 9:1 1 1 1 1 ^2", 2).fault("kinds 1;^sale 2:1", 1);
    }

    // ---- promise 37 ----

    private static final String TOLD = "kinds 1 20 500;float 0 9 99;purse 99 0 7;limit 0 10 99;bag 1 10 99;day;day;sale 1000:20 500 500;sale 2:1 1;day";

    private static void letter() {
        Sentences.promise(37, "The k-th byte of the TILL as a TEXT");
        Asked.till(TOLD).text(TOLD).due("letter(0)", 'k').due("letter(1)", 'i').due("letter(5)", ' ').due("letter(6)", '1');

        Sentences.promise(37, "kinds, float, purse, limit, bag (these four always), then each DAY with its SALES (given by VALUES, the least first)");
        Asked.till("kinds 7").text("kinds 7;float 0;purse 0;limit 99;bag 10");
        Asked.till("kinds 1 5;day;sale 3:5 1 1 5;day").text("kinds 1 5;float 0 0;purse 0 0;limit 99 99;bag 10 10;day;sale 3:1 1 5 5;day");
        Asked.till("kinds 1 2 3 4 5 6 7 8;day")
            .text("kinds 1 2 3 4 5 6 7 8;float 0 0 0 0 0 0 0 0;purse 0 0 0 0 0 0 0 0;limit 99 99 99 99 99 99 99 99;bag 10 10 10 10 10 10 10 10;day");

        String eight = "kinds 1 2 3 4 5 6 7 8;float 0 0 0 0 0 0 0 99;purse 0 0 0 0 0 0 0 99;limit 1 0 0 0 0 0 0 0;bag 1 1 1 1 1 1 1 99;day;sale 8:8;sale 1:1;sale 9:1 8;day;sale 2:1 8 8";
        Asked.till(eight).text(eight);

        Sentences.promise(37, "one blank ahead of each NUMBER but behind :, none else");
        Asked.till("  kinds  1  20 ; day ; sale  20 : 20 ").text("kinds 1 20;float 0 0;purse 0 0;limit 99 99;bag 10 10;day;sale 20:20");

        Sentences.promise(37, "k NONE: how many; -2: it has not so many; NONE for k below NONE");
        int length = TOLD.length();
        Asked.till(TOLD).leaves("letter(NONE)", length).due("letter(" + (length - 1) + ")", 'y').due("letter(" + length + ")", -2)
            .due("letter(MAX)", -2).due("letter(-2)", NONE).due("letter(-3)", NONE).due("letter(MIN)", NONE);
        // 40 SALES and 5 DAYS drawn: the text is longer than a tape
        // 39 bytes and four days of 102 each: more than a tape takes
        Asked.till("kinds 1").act("drawn(7, 10)").act("drawn(0, 10)").act("drawn(7, 10)").act("drawn(0, 10)").due("letter(NONE)", 447)
            .due("letter(0)", 'k').due("letter(446)", '1').due("letter(447)", -2);

        Sentences.promise(37, "Without KINDS nothing");
        Asked.fresh().due("letter(NONE)", 0).due("letter(0)", -2).due("letter(MAX)", -2).due("letter(-2)", NONE);
    }
}
