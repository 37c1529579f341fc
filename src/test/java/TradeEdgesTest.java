/** A test for each sentence that names a boundary of a TRADE: "Terms", FAULTS, promises 1 to 3. */
public final class TradeEdgesTest {
    private TradeEdgesTest() {
    }

    public static void main(String[] args) {
        newObject();
        feedOrder();
        feedFull();
        sixHundredBytes();
        sixtyClauses();
        eightBeasts();
        numberAndAge();
        stripes();
        fiveGates();
        slipsAndToll();
        toldAhead();
        twentyFourNumbers();
        purse();
        digits();
        letters();
        blanks();
        firstFromTheLeft();
        firstByte();
        whatCantStandThere();
        noneSuch();
        tooMany();
        ofOneTheLeast();
        firstBytesOfTheTape();
        whatATradeEnds();
        whatAFaultLeaves();
        whatAnExceptionLeaves();
        Due.end();
    }

    private static StripeTrade fault(int answer, int place, String text) {
        StripeTrade x = new StripeTrade();
        Due.is("trade of '" + text + "'", answer, Due.trade(x, text));
        Due.is("fault() of '" + text + "'", place, x.fault());
        return x;
    }

    private static StripeTrade fine(int beasts, String text) {
        return fault(beasts, -1, text);
    }

    private static void newObject() {
        Due.sentence("1", "A TRADE without CLAUSES.");
        StripeTrade x = new StripeTrade();
        Due.same("a new object", "told 0 0 0 100 0 0 0 0 0\nkept 0 0\nlaw 56 11\n", Due.state(x));
        Due.is("its tape", 0, x.count(1));
        Due.is("its fault", -1, x.fault());
        Due.is("elements refused", 0, x.status(0));
        Due.is("arguments refused", 0, x.status(1));
        Due.is("nothing to undo", -1, x.undo());
        Due.is("no image", -1, x.restore());
        Due.is("the empty trade", 0, x.trade(0));
        Due.same("the empty trade", Due.state(new StripeTrade()), Due.state(x));
        Due.sentence("The face", "public static final int NONE = -1;");
        Due.is("NONE", -1, StripeTrade.NONE);
    }

    private static void feedOrder() {
        Due.sentence("2", "Twenty bytes come on the TAPE, of each number the highest first: how many there are");
        // "purse 321;purse 45 ;"
        StripeTrade x = new StripeTrade();
        Due.is("the first twenty", 20, x.feed(0x70757273, 0x65203332, 0x313b7075, 0x72736520, 0x3435203b));
        Due.is("count(1)", 20, x.count(1));
        Due.is("ten of them", 0, x.trade(10));
        Due.is("coins by the first ten", 321, x.told(3));
        x.feed(0x70757273, 0x65203332, 0x313b7075, 0x72736520, 0x3435203b);
        Due.is("the second twenty", 40, x.feed(0x70757273, 0x65203332, 0x313b7075, 0x72736520, 0x3635203b));
        Due.is("all of them", 0, x.trade(40));
        Due.is("coins by the last ten", 65, x.told(3));
        x.feed(0xff000000, 0, 0, 0, 0);
        Due.is("a byte of 255 is none of a text", -9, x.trade(1));
        x.feed(0x20202080, 0, 0, 0, 0);
        Due.is("nor one of 128", -9, x.trade(4));
        Due.is("at its place", 3, x.fault());
    }

    private static void feedFull() {
        Due.sentence("2", "NONE, doing nothing, if there would be more than 600.");
        StripeTrade x = new StripeTrade();
        Due.feed(x, " ".repeat(560) + "beast 5 3;          ");
        Due.is("580 there", 580, x.count(1));
        Due.is("600", 600, x.feed(0x20202020, 0x20202020, 0x20202020, 0x20202020, 0x2020203b));
        Due.is("more than 600", -1, x.feed(0x3b3b3b3b, 0x3b3b3b3b, 0x3b3b3b3b, 0x3b3b3b3b, 0x3b3b3b3b));
        Due.is("still 600", 600, x.count(1));
        Due.is("once more", -1, x.feed(0, 0, 0, 0, 0));
        Due.is("no call was refused", 0, x.status(0) + x.status(1));
        Due.is("the bytes are those of before", 1, x.trade(599));
        Due.is("there is room again", 20, x.feed(0, 0, 0, 0, 0));
    }

    private static void sixHundredBytes() {
        Due.sentence("Terms", "A TRADE is a text of up to 600 bytes");
        StripeTrade x = new StripeTrade();
        Due.is("a beast that ends with byte 600", 1, Due.trade(x, " ".repeat(590) + "beast 5 3;"));
        Due.is("its number", 5, x.beast(0, 0));
        Due.is("it begins at 0", 2, Due.trade(x, "beast 6 3;" + " ".repeat(580) + "beast 5 3;"));
        fault(-9, 600, " ".repeat(591) + "beast 5 3");
        fault(-9, 599, " ".repeat(599) + ";");
        Due.feed(x, " ".repeat(600));
        Due.refusedArgument("trade(601)", () -> x.trade(601));
        Due.is("trade(600)", 0, x.trade(600));
    }

    private static void sixtyClauses() {
        Due.sentence("Terms", "{ CLAUSE \";\" }, at most 60");
        fine(0, "");
        fine(0, "   ");
        fine(0, "purse1;".repeat(59));
        Due.is("the 60th counts", 7, fine(0, "purse1;".repeat(59) + "purse7;").told(3));
        fine(1, "gate0 0;" + "list0 0;".repeat(24) + "purse1;".repeat(34) + "beast0 0;");
        fault(-7, 420, "purse1;".repeat(60) + "purse1;");
        fault(-7, 421, "purse1;".repeat(60) + " beast 0 0;");
        fault(-7, 420, "purse1;".repeat(60) + "gate 0 0;");
        fault(-7, 422, "gate0 0;" + "purse1;".repeat(59) + " list 0 0;");
        fault(-7, 420, "purse1;".repeat(60) + "purse");
    }

    private static void eightBeasts() {
        Due.sentence("Terms", "BEASTS, numbered from 0 on, 8 at most");
        StripeTrade x = fine(8, "beast 10 1;beast 11 2;beast 12 3;beast 13 4;beast 14 5;beast 15 6;beast 16 7;beast 17 8;");
        for (int b = 0; b < 8; b++) {
            Due.is("number of beast " + b, 10 + b, x.beast(b, 0));
            Due.is("age of beast " + b, 1 + b, x.beast(b, 2));
        }
        fault(-7, 80, "beast 1 1;".repeat(8) + "beast 1 1;");
        fault(-7, 82, "beast 1 1;".repeat(8) + "  beast 999 999;");
        Due.is("the first of a new trade is 0 again", 1, Due.trade(x, "beast 99 9;"));
        Due.is("its number", 99, x.beast(0, 0));
        Due.refusedElement("no second", () -> x.beast(1, 0));
    }

    private static void numberAndAge() {
        Due.sentence("Terms", "NUMBER N, 0 to 255");
        Due.is("0", 0, fine(1, "beast 0 3;").beast(0, 1));
        Due.is("255", 255, fine(1, "beast 255 3;").beast(0, 1));
        fault(-8, 6, "beast 256 3;");
        fault(-9, 6, "beast -1 3;");
        Due.sentence("Terms", "AGE A, 0 to 40");
        Due.is("0", 0, fine(1, "beast 1 0;").beast(0, 2));
        Due.is("40", 40, fine(1, "beast 1 40;").beast(0, 2));
        fault(-8, 8, "beast 1 41;");
    }

    private static void stripes() {
        Due.sentence("Terms", "as eight STRIPES, bits, that of 1 first");
        StripeTrade x = fine(8, "beast 1 0;beast 2 0;beast 4 0;beast 8 0;beast 16 0;beast 32 0;beast 64 0;beast 128 0;");
        for (int s = 0; s < 8; s++) {
            Due.is("striped(" + s + ")", 1 << s, x.striped(s));
        }
        Due.work(x, "wash 0;rub 0 0;tar 0 7;rub 7 7;tar 7 0;");
        Due.is("stripe 7 is that of 128", 128, x.beast(0, 0));
        Due.is("stripe 0 is that of 1", 1, x.beast(7, 0));
    }

    private static void fiveGates() {
        Due.sentence("Terms", "GATES likewise, 5");
        StripeTrade x = fine(0, "gate 0 10;gate 1 11;gate 2 12;gate 3 13;gate 0 14;");
        for (int g = 0; g < 5; g++) {
            Due.is("slips forgiven by gate " + g, g % 4, x.gate(g, 0));
            Due.is("toll of gate " + g, 10 + g, x.gate(g, 1));
        }
        fault(-7, 45, "gate 1 1;".repeat(5) + "gate 1 1;");
        fault(-7, 46, "gate 1 1;".repeat(5) + " gate 9 99;");
    }

    private static void slipsAndToll() {
        Due.sentence("Terms", "forgives K slips, 0 to 3, TOLL T, 0 to 40");
        Due.is("K 0", 0, fine(0, "gate 0 7;").gate(0, 0));
        Due.is("K 3", 3, fine(0, "gate 3 7;").gate(0, 0));
        fault(-8, 5, "gate 4 7;");
        Due.is("T 0", 0, fine(0, "gate 2 0;").gate(0, 1));
        Due.is("T 40", 40, fine(0, "gate 2 40;").gate(0, 1));
        fault(-8, 7, "gate 2 41;");
    }

    private static void toldAhead() {
        Due.sentence("Terms", "GATE G, told ahead, has NUMBER N in its list");
        StripeTrade x = fine(0, "gate 0 0;list 0 9;gate 0 0;list 1 8;list 0 7;");
        Due.is("first of gate 0", 9, x.listed(0, 0));
        Due.is("second of gate 0", 7, x.listed(0, 1));
        Due.is("first of gate 1", 8, x.listed(1, 0));
        fault(-8, 5, "list 0 9;");
        fault(-8, 5, "list 0 9;gate 0 0;");
        fault(-8, 14, "gate 0 0;list 1 9;gate 0 0;");
        fault(-8, 50, "gate 0 0;".repeat(5) + "list 5 9;");
        fault(-8, 14, "gate 0 0;list 4294967296 9;");
        Due.is("N 0", 0, fine(0, "gate 0 0;list 0 0;").listed(0, 0));
        Due.is("N 255", 255, fine(0, "gate 0 0;list 0 255;").listed(0, 0));
        fault(-8, 16, "gate 0 0;list 0 256;");
        StripeTrade y = Due.of("gate 0 0;gate 0 0;");
        Due.is("gates of the trade before are not told", -8, Due.trade(y, "gate 0 0;list 1 1;"));
    }

    private static void twentyFourNumbers() {
        Due.sentence("Terms", "24 such at most in all");
        StripeTrade x = fine(0, "gate 0 0;" + "list 0 7;".repeat(24));
        Due.is("all in one list", 24, x.gate(0, 2));
        Due.is("the last of them", 7, x.listed(0, 23));
        Due.is("no more of them", -1, x.listed(0, 24));
        StripeTrade y = fine(0, "gate 0 0;".repeat(5) + "list 0 7;".repeat(12) + "list 4 9;".repeat(12));
        Due.is("the last of gate 4", 9, y.listed(4, 11));
        Due.is("none behind it", -1, y.listed(4, 12));
        fault(-7, 225, "gate 0 0;" + "list 0 7;".repeat(24) + "list 0 7;");
        fault(-7, 262, "gate 0 0;".repeat(5) + "list 0 7;".repeat(12) + "list 4 7;".repeat(12) + " list 3 7;");
        fault(-7, 225, "gate 0 0;" + "list 0 7;".repeat(24) + "list 9 999;");
        Due.is("as many again in a new trade", 0, Due.trade(x, "gate 0 0;" + "list 0 7;".repeat(24)));
        Due.is("24 in all", 24, x.told(5));
    }

    private static void purse() {
        Due.sentence("Terms", "the dealer has C coins, 0 to 999; 100 without; the last counts");
        Due.is("0", 0, fine(0, "purse 0;").told(3));
        Due.is("999", 999, fine(0, "purse 999;").told(3));
        fault(-8, 6, "purse 1000;");
        StripeTrade x = fine(1, "beast 0 0;");
        Due.is("without", 100, x.told(3));
        Due.is("the last", 3, fine(0, "purse 5;purse 999;purse 3;").told(3));
        Due.trade(x, "purse 5;");
        Due.trade(x, "gate 0 0;");
        Due.is("without, behind another trade", 100, x.told(3));
    }

    private static void digits() {
        Due.sentence("Terms", "Numbers: digits, as many as stand there");
        Due.is("with zeros ahead", 255, fine(1, "beast 00000000000000000000255 0000;").beast(0, 0));
        fault(-8, 6, "beast 00000000000000000000256 0;");
        fault(-8, 6, "beast 4294967296 0;");
        fault(-8, 6, "beast 4294967297 0;");
        fault(-8, 6, "purse 18446744073709551616;");
        fault(-8, 6, "purse " + "9".repeat(400) + ";");
        fault(-8, 6, "purse 2147483648;");
        fault(-9, 8, "beast 11;");
        fault(-9, 8, "purse 1 1;");
        fault(-9, 7, "purse 1x;");
        fault(-9, 7, "purse 1.5;");
        fault(-9, 6, "purse +1;");
        fault(-9, 6, "purse /;");
        fault(-9, 6, "purse :;");
        Due.is("0 and 9 are digits", 90, fine(0, "purse 90;").told(3));
    }

    private static void letters() {
        Due.sentence("Terms", "WORDS: small letters, as many as stand there");
        fault(-9, 0, "beasts 1 1;");
        fault(-9, 0, "beas 1 1;");
        fault(-9, 0, "Beast 1 1;");
        fault(-9, 0, "beasT 1 1;");
        fault(-9, 0, "beastbeast 1 1;");
        fault(-9, 0, "gatea 1 1;");
        fault(-9, 0, "gatez 1 1;");
        fault(-9, 0, "zurse 1;");
        fault(-9, 0, "bea st 1 1;");
        fault(-9, 0, "b 1 1;");
        fault(-9, 0, "lis 0 0;");
        fault(-9, 0, "lists 0 0;");
        fault(-9, 0, "purses 0;");
        fault(-9, 0, "{urse 0;");
        fault(-9, 0, "`urse 0;");
        fault(-9, 5, "beast{1 1;");
        fault(-9, 5, "beastB1 1;");
    }

    private static void blanks() {
        Due.sentence("Terms", "blanks (32) may stand ahead of all these, and at the end");
        StripeTrade x = fine(1, "   beast   5   3   ;  gate  1  2  ;  list  0  5  ; purse  7  ;   ");
        Due.is("the number", 5, x.beast(0, 0));
        Due.is("the gate", 1, x.gate(0, 5));
        Due.is("the coins", 7, x.told(3));
        fine(1, "beast5 3;gate1 2;list0 5;purse7;");
        fault(-9, 5, "beast\t5 3;");
        fault(-9, 7, "beast 5\n3;");
        fault(-9, 0, "\u0000beast 5 3;");
        fault(-9, 10, "beast 5 3;\t");
        fault(-9, 10, "beast 5 3;\u00a0");
        fault(-9, 0, "!beast 5 3;");
        fault(-9, 0, "\u001fbeast 5 3;");
    }

    private static void firstFromTheLeft() {
        Due.sentence("Terms", "FAULTS, the first from the left");
        fault(-8, 6, "beast 256 41;");
        fault(-8, 8, "beast 1 41,gate");
        fault(-8, 6, "beast 999");
        fault(-9, 6, "beast ,999;");
        fault(-7, 80, "beast 1 1;".repeat(8) + "beast 999 1;");
        fault(-9, 10, "beast 1 1;;" + "beast 1 1;".repeat(8));
        fault(-8, 5, "gate 4 0" + "gate 1 1;".repeat(6));
    }

    private static void firstByte() {
        Due.sentence("Terms", "at its first byte");
        fault(-9, 3, "   bear 1 1;");
        fault(-8, 9, "beast    256 1;");
        fault(-8, 12, "beast 1     041;");
        fault(-9, 9, "purse 1  ?;");
        fault(-7, 83, "beast 1 1;".repeat(8) + "   beast 1 1;");
    }

    private static void whatCantStandThere() {
        Due.sentence("Terms", "1 what can't stand there (at the length, if the text ends too early)");
        fault(-9, 0, "b");
        fault(-9, 5, "beast");
        fault(-9, 8, "beast   ");
        fault(-9, 7, "beast 1");
        fault(-9, 8, "beast 1 ");
        fault(-9, 9, "beast 1 1");
        fault(-9, 12, "beast 1 1   ");
        fault(-9, 19, "beast 1 1;beast 1 1");
        fault(-9, 7, "purse 1");
        fault(-9, 5, "purse");
        fault(-9, 4, "gate");
        fault(-9, 6, "gate 1");
        fault(-9, 8, "gate 1 1");
        fault(-9, 13, "gate 1 1;list");
        fault(-9, 15, "gate 1 1;list 0");
        fault(-9, 17, "gate 1 1;list 0 0");
        fault(-9, 0, ";");
        fault(-9, 0, "1;");
        fault(-9, 8, "purse 1;;");
        fault(-9, 9, "beast 1 1,");
        fault(-9, 10, "beast 1 1 2;");
        fault(-9, 0, "tar 0 0;");
        fault(-9, 0, "year;");
        StripeTrade x = new StripeTrade();
        Due.feed(x, "purse 1;purse 2;purse 3;");
        Due.is("the length is n, not that of the tape", -9, x.trade(13));
        Due.is("at n", 13, x.fault());
        String text = "beast 12 34;list";
        for (int n = 1; n < 12; n++) {
            Due.feed(x, text);
            Due.is("a text that ends at " + n, -9, x.trade(n));
            Due.is("its fault, whatever stands behind it", n < 5 ? 0 : n, x.fault());
        }
        Due.feed(x, text);
        Due.is("a text that ends with its clause", 1, x.trade(12));
    }

    private static void noneSuch() {
        Due.sentence("Terms", "2 a number that is none such");
        fault(-8, 6, "beast 256");
        fault(-8, 8, "beast 0 41");
        fault(-8, 5, "gate 4");
        fault(-8, 7, "gate 0 41");
        fault(-8, 5, "list 0");
        fault(-8, 16, "gate 0 0;list 0 256");
        fault(-8, 6, "purse 1000");
    }

    private static void tooMany() {
        Due.sentence("Terms", "3 a CLAUSE, BEAST, GATE or \"list\" (at its word)");
        fault(-7, 420, "purse1;".repeat(60) + "purse1;");
        fault(-7, 80, "beast 1 1;".repeat(8) + "beast 1 1;");
        fault(-7, 45, "gate 1 1;".repeat(5) + "gate 1 1;");
        fault(-7, 225, "gate 0 0;" + "list 0 7;".repeat(24) + "list 0 7;");
        fine(8, "beast 1 1;".repeat(8) + "gate 1 1;".repeat(5) + "list 0 1;".repeat(24) + "purse 1;");
    }

    private static void ofOneTheLeast() {
        Due.sentence("Terms", "of one the least");
        fault(-9, 420, "purse1;".repeat(60) + "purses1;");
        fault(-9, 420, "purse1;".repeat(60) + ";");
        fault(-9, 420, "purse1;".repeat(60) + "999;");
        fault(-9, 80, "beast 1 1;".repeat(8) + "beasts 1 1;");
        fault(-9, 8, "purse 1 9999;");
        fault(-9, 8, "purse 1;9999;");
    }

    private static void firstBytesOfTheTape() {
        Due.sentence("3", "The first n bytes of the TAPE (empty then) are the TRADE");
        StripeTrade x = new StripeTrade();
        Due.feed(x, "beast 5 3;beast 6 4;");
        Due.is("ten of twenty", 1, x.trade(10));
        Due.is("the tape is empty", 0, x.count(1));
        Due.refusedArgument("nothing of it is left", () -> x.trade(1));
        Due.feed(x, "beast 5 3;beast 6 4;");
        Due.is("none of twenty", 0, x.trade(0));
        Due.is("the tape is empty", 0, x.count(1));
        Due.is("no beasts", 0, x.told(0));
        Due.feed(x, "beast 5 3;beast 6 4;");
        Due.is("all of twenty", 2, x.trade(20));
        Due.feed(x, "purses;" + " ".repeat(13));
        Due.is("a word is cut by n", -9, x.trade(5));
        Due.is("behind the word", 5, x.fault());
        Due.feed(x, "purse 1234567;      ");
        Due.is("a number is cut by n", -9, x.trade(9));
        Due.is("behind the number", 9, x.fault());
    }

    /** One beast tarred, one gate passed, a law, a refused step, two works, an image. */
    private static StripeTrade lived() {
        StripeTrade x = Due.of("beast 5 3;gate 2 7;list 0 1;purse 50;");
        Due.law(x, "9+gate");
        Due.work(x, "year;pass 0 0;");
        x.image();
        Due.work(x, "tar 0 1;tar 0 1;");
        return x;
    }

    private static void whatATradeEnds() {
        Due.sentence("3", "YEAR 0; no LAW, IMAGES, nothing to undo");
        StripeTrade x = lived();
        Due.is("a trade", 1, Due.trade(x, "beast 5 3;gate 2 7;list 0 1;purse 50;"));
        Due.same("all is as behind the first trade", Due.state(Due.of("beast 5 3;gate 2 7;list 0 1;purse 50;")), Due.state(x));
        Due.is("no image", -1, x.restore());
        Due.is("nothing to undo", -1, x.undo());
        Due.is("the fee by toll + apart * 2", 9, x.fee(0, 0));
        for (int i = 1; i <= 3; i++) {
            Due.is("images again", i, x.image());
        }
        String full = "beast 0 1;".repeat(8) + "gate 0 2;".repeat(5) + "list 0 0;list 4 0;purse 99;";
        Due.trade(x, full);
        Due.work(x, "tar 7 1;wash 7;pass 0 0;pass 7 4;pass 7 4;year;tar 0 7;tar 7 0;");
        x.years(7, 8, 1, 1, 0);
        x.affords(7, 4);
        Due.is("what was asked is no part of a trade", 8, Due.trade(x, full));
        Due.same("eight beasts, five gates", Due.state(Due.of(full)), Due.state(x));
        Due.is("the empty trade", 0, x.trade(0));
        Due.same("ends all, too", Due.state(new StripeTrade()), Due.state(x));
    }

    private static void whatAFaultLeaves() {
        Due.sentence("3", "or the FAULT less 10 (all but the TAPE stays)");
        StripeTrade x = lived();
        String before = Due.state(x);
        String[] texts = {"beast 1 1;gate 1 1;list 0 9;purse 9;bear", "beast 1 1;gate 1 1;list 0 9;purse 1000;",
            "gate 1 1;gate 2 2;" + "beast 9 9;".repeat(9)};
        for (int i = 0; i < 3; i++) {
            Due.is("fault " + (i + 1), i - 9, Due.trade(x, texts[i]));
            Due.is("the tape is empty", 0, x.count(1));
            Due.same("the rest stays", before, Due.state(x));
        }
        Due.is("the fee by the law", 9, x.fee(0, 0));
        Due.is("what can be undone stays", 1, x.undo());
        Due.is("as it was", 5, x.beast(0, 0));
        Due.is("the image stays", 0, x.restore());
        Due.is("the works of the image", 1, x.count(2));
    }

    private static void whatAnExceptionLeaves() {
        Due.sentence("3", "IllegalArgumentException: n is not 0 to the TAPE's bytes (it stays).");
        StripeTrade x = lived();
        Due.trade(x, "beast 5");
        Due.feed(x, "purse 9;purse 8;purse 7;");
        String before = Due.state(x);
        int[] wrong = {-1, 41, 601, Integer.MAX_VALUE, Integer.MIN_VALUE};
        for (int n : wrong) {
            Due.refusedArgument("trade(" + n + ")", () -> x.trade(n));
        }
        Due.is("the tape stays", 40, x.count(1));
        Due.same("all stays", before, Due.state(x));
        Due.is("the fault stays", 7, x.fault());
        Due.is("all of the tape", 0, x.trade(40));
        Due.is("it was as it had come", 7, x.told(3));
        Due.refusedArgument("trade(1) of an empty tape", () -> x.trade(1));
        Due.is("trade(0) of an empty tape", 0, x.trade(0));
    }
}
