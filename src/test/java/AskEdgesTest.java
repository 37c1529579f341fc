/** A test for each sentence that names a boundary of what is asked of beasts and gates: promises 8 to 14, 16 to 24. */
public final class AskEdgesTest {
    /** Beasts 5, 7, 200, 6 and gates: 0 lets 5 and 6 through, 1 lets 7 and 200 through, 2 has no list. */
    private static final String FOUR = "beast 5 3;beast 7 1;beast 200 9;beast 6 0;gate 1 10;gate 0 4;gate 2 0;"
            + "list 0 4;list 0 255;list 1 7;list 1 200;purse 60;";

    private AskEdgesTest() {
    }

    public static void main(String[] args) {
        toldOfAll();
        ofABeast();
        ofAGate();
        kthNumber();
        slips();
        near();
        fee();
        can();
        howManyStrokes();
        whichStrokes();
        twins();
        codes();
        parents();
        herds();
        sure();
        ask();
        cover();
        list();
        Due.end();
    }

    private static void toldOfAll() {
        Due.sentence("8", "0 BEASTS, 1 GATES, 2 the YEAR, 3 coins of the dealer, 4 what GATES took in all, 5 NUMBERS in "
                + "lists");
        StripeTrade x = Due.of(FOUR);
        Due.work(x, "pass 0 0;year;pass 1 1;pass 3 0;tar 0 1;tar 1 7;foal 0 1;wash 3;");
        int[] due = {5, 3, 1, 60 - 12 - 4 - 12, 28, 4, 1, 3, 3};
        for (int what = 0; what < due.length; what++) {
            Due.is("told(" + what + ")", due[what], x.told(what));
        }
        Due.sentence("8", "8 BEASTS (bits) whose NUMBER is not as it was born");
        StripeTrade y = Due.of("beast 0 0;".repeat(8));
        Due.work(y, "tar 0 0;tar 1 0;tar 2 0;tar 3 0;tar 4 0;tar 5 0;tar 6 0;tar 7 0;");
        Due.is("all", 255, y.told(8));
        Due.work(y, "wash 0;rub 3 0;tar 5 1;");
        Due.is("but 0 and 3", 255 - 1 - 8, y.told(8));
        Due.sentence("8", "7 passings in all");
        StripeTrade z = Due.of("gate 0 1;gate 0 2;gate 0 4;gate 0 8;gate 0 16;list 0 1;list 1 1;list 2 1;list 3 1;list 4 1;"
                + "beast 1 0;");
        for (int g = 0; g < 5; g++) {
            Due.work(z, "pass 0 " + g + ";");
            Due.is("passings", g + 1, z.told(7));
            Due.is("what gates took in all", (2 << g) - 1, z.told(4));
        }
    }

    private static void ofABeast() {
        Due.sentence("9", "Of a BEAST: 0 its NUMBER now, 1 as it was born, 2 AGE, 3 how often it passed, 4 STRIPES that "
                + "are 1, 5 GATES (bits) that OPEN to it");
        StripeTrade x = Due.of("beast 0 7;beast 255 0;" + "gate 3 0;".repeat(5)
                + "list 0 7;list 1 7;list 2 15;list 3 0;list 4 224;");
        int[] due = {0, 0, 7, 0, 0, 1 + 2 + 8 + 16};
        for (int what = 0; what < due.length; what++) {
            Due.is("beast(0, " + what + ")", due[what], x.beast(0, what));
        }
        Due.work(x, "tar 0 3;pass 0 0;pass 0 2;year;");
        int[] then = {8, 0, 8, 1, 1, 4 + 8};
        for (int what = 0; what < then.length; what++) {
            Due.is("tarred: beast(0, " + what + ")", then[what], x.beast(0, what));
        }
        Due.is("all stripes are 1", 8, x.beast(1, 4));
        Due.is("no gate opens", 0, x.beast(1, 5));
        Due.is("no gates", 0, Due.of("beast 1 1;").beast(0, 5));
    }

    private static void ofAGate() {
        Due.sentence("10", "Of a GATE: 0 K, 1 T, 2 NUMBERS in its list, 3 how many passed it, 4 what it took, 5 BEASTS "
                + "(bits) to which it OPENS");
        StripeTrade x = Due.of("beast 0 0;".repeat(7) + "beast 3 0;" + "gate 2 9;gate 1 9;gate 3 40;list 0 0;list 0 0;list 1 0;");
        int[] due = {2, 9, 2, 0, 0, 255};
        for (int what = 0; what < due.length; what++) {
            Due.is("gate(0, " + what + ")", due[what], x.gate(0, what));
        }
        Due.is("2 slips are not forgiven", 127, x.gate(1, 5));
        Due.work(x, "pass 0 0;pass 0 0;rub 7 0;tar 0 0;tar 0 1;tar 0 2;");
        Due.is("who passed it", 2, x.gate(0, 3));
        Due.is("what it took", 18, x.gate(0, 4));
        Due.is("to whom it opens now", 254, x.gate(0, 5));
        Due.is("rubbed: 1 slip", 254, x.gate(1, 5));
        int[] bare = {3, 40, 0, 0, 0, 0};
        for (int what = 0; what < bare.length; what++) {
            Due.is("without a list: gate(2, " + what + ")", bare[what], x.gate(2, what));
        }
    }

    private static void kthNumber() {
        Due.sentence("11", "The k-th NUMBER (from 0 on) of a GATE's list, as told; NONE: there are not so many.");
        StripeTrade x = Due.of("gate 0 0;gate 0 0;list 1 9;list 0 3;list 1 9;list 1 2;list 0 1;");
        int[][] due = {{3, 1, -1}, {9, 9, 2, -1}};
        for (int g = 0; g < 2; g++) {
            for (int k = 0; k < due[g].length; k++) {
                Due.is("listed(" + g + ", " + k + ")", due[g][k], x.listed(g, k));
            }
            Due.is("far beyond", -1, x.listed(g, Integer.MAX_VALUE));
            Due.is("24", -1, x.listed(g, 24));
        }
        Due.is("no list", -1, Due.of("gate 0 0;").listed(0, 0));
        Due.trade(x, "gate 0 0;list 0 8;");
        Due.is("of another trade", 8, x.listed(0, 0));
        Due.is("nothing of the trade before", -1, x.listed(0, 1));
    }

    private static void slips() {
        Due.sentence("2", "SLIPS of two NUMBERS: STRIPES that are unlike.");
        StripeTrade x = new StripeTrade();
        Due.is("0 and 255", 8, x.slips(0, 255));
        Due.is("255 and 0", 8, x.slips(255, 0));
        Due.is("0 and 0", 0, x.slips(0, 0));
        Due.is("255 and 255", 0, x.slips(255, 255));
        Due.is("127 and 128", 8, x.slips(127, 128));
        Due.is("0 and 128", 1, x.slips(0, 128));
        Due.is("5 and 6", 2, x.slips(5, 6));
    }

    private static void near() {
        Due.sentence("3", "NEAR of a GATE and a BEAST: the least SLIPS to a NUMBER of its list (NONE: it has none).");
        StripeTrade x = Due.of("beast 0 0;beast 7 0;gate 0 0;gate 0 0;list 0 255;list 0 127;list 0 254;");
        Due.is("7, not 8", 7, x.near(0, 0));
        Due.is("4, not 5", 4, x.near(1, 0));
        Due.is("no list", -1, x.near(0, 1));
        Due.is("8 slips", 8, Due.of("beast 0 0;gate 0 0;list 0 255;").near(0, 0));
        Due.is("0 slips", 0, Due.of("beast 255 0;gate 0 0;list 0 0;list 0 255;").near(0, 0));
        Due.work(x, "tar 0 0;");
        Due.is("as it is now", 6, x.near(0, 0));
    }

    private static void fee() {
        Due.sentence("14", "FEE, were a BEAST to pass a GATE now (OPEN or not); NONE: it has no list.");
        StripeTrade x = Due.of("beast 0 0;gate 0 40;gate 3 40;list 0 255;purse 0;");
        Due.is("not open, no coins", 56, x.fee(0, 0));
        Due.is("no list", -1, x.fee(0, 1));
        Due.law(x, "0");
        Due.is("a fee of 0", 0, x.fee(0, 0));
        Due.is("no list", -1, x.fee(0, 1));
        Due.law(x, "0-1");
        Due.is("0 at least", 0, x.fee(0, 0));
    }

    private static void can() {
        Due.sentence("16", "Whether pass could be done now.");
        StripeTrade x = Due.of("beast 0 0;beast 3 0;gate 1 8;gate 1 8;list 0 1;purse 10;");
        Due.is("10 coins of 10", 1, x.can(0, 0) ? 1 : 0);
        Due.is("the same for the other one", 1, x.can(1, 0) ? 1 : 0);
        Due.is("no list", 0, x.can(0, 1) ? 1 : 0);
        Due.work(x, "tar 0 2;");
        Due.is("2 slips", 0, x.can(0, 0) ? 1 : 0);
        Due.law(x, "11");
        Due.is("10 coins of 11", 0, x.can(1, 0) ? 1 : 0);
        Due.law(x, "10");
        Due.is("10 coins of 10", 1, x.can(1, 0) ? 1 : 0);
        Due.work(x, "pass 1 0;");
        Due.is("no coins of 10", 0, x.can(1, 0) ? 1 : 0);
        Due.law(x, "0");
        Due.is("no coins of 0", 1, x.can(1, 0) ? 1 : 0);
    }

    private static void howManyStrokes() {
        Due.sentence("17", "STROKES: 0 how many (0: it OPENS yet), 1 the STRIPES (bits); NONE both.");
        for (int k = 0; k <= 3; k++) {
            StripeTrade x = Due.of("beast 0 0;beast 255 0;beast 15 0;gate " + k + " 0;gate 3 0;list 0 255;");
            Due.is("8 slips, forgiven " + k, 8 - k, x.strokes(0, 0, 0));
            Due.is("8 slips, forgiven " + k + ": the least bits", (1 << 8 - k) - 1, x.strokes(0, 0, 1));
            Due.is("open yet", 0, x.strokes(1, 0, 0));
            Due.is("open yet: no stripes", 0, x.strokes(1, 0, 1));
            Due.is("4 slips, forgiven " + k, 4 - k, x.strokes(2, 0, 0));
            Due.is("4 slips, forgiven " + k + ": the least bits", (1 << 4 - k) - 1 << 4, x.strokes(2, 0, 1));
            Due.is("no list", -1, x.strokes(0, 1, 0));
            Due.is("no list: no stripes", -1, x.strokes(0, 1, 1));
        }
    }

    private static void whichStrokes() {
        Due.sentence("3", "the fewest STRIPES of a BEAST to change so that a GATE OPENS, of as few those that are the "
                + "least bits; NONE.");
        StripeTrade x = Due.of("beast 0 0;gate 0 0;gate 1 0;gate 2 0;gate 0 0;list 0 6;list 0 5;list 0 128;list 1 112;"
                + "list 1 7;list 2 3;list 3 48;list 3 12;list 3 192;list 3 7;");
        Due.is("one stripe rather than two", 1, x.strokes(0, 0, 0));
        Due.is("though its bits are more", 128, x.strokes(0, 0, 1));
        Due.is("two of three", 2, x.strokes(0, 1, 0));
        Due.is("of two numbers the least bits", 3, x.strokes(0, 1, 1));
        Due.is("just forgiven", 0, x.strokes(0, 2, 0));
        Due.is("just forgiven: no stripes", 0, x.strokes(0, 2, 1));
        Due.is("of three numbers the least bits", 12, x.strokes(0, 3, 1));
        Due.work(x, "tar 0 4;");
        Due.is("as it is now: one stripe", 1, x.strokes(0, 3, 0));
        Due.is("as it is now: that of 32", 32, x.strokes(0, 3, 1));
    }

    private static void twins() {
        Due.sentence("18", "Pairs of BEASTS whose NUMBERS are k SLIPS apart or less (k 0 to 8): 0 how many, 1 the first "
                + "(10 times the lesser, and the other one; NONE).");
        StripeTrade x = Due.of("beast 0 0;beast 255 0;beast 1 0;beast 254 0;beast 15 0;beast 60 0;beast 85 0;beast 60 0;");
        Due.is("0: the two of 60", 1, x.twins(0, 0));
        Due.is("0: 5 and 7", 57, x.twins(0, 1));
        Due.is("1: and 0 by 1, 255 by 254", 3, x.twins(1, 0));
        Due.is("1: 0 and 2", 2, x.twins(1, 1));
        Due.is("7: all but 0 by 255, 1 by 254", 26, x.twins(7, 0));
        Due.is("8: all", 28, x.twins(8, 0));
        Due.is("8: 0 and 1", 1, x.twins(8, 1));
        Due.is("one beast", 0, Due.of("beast 1 1;").twins(8, 0));
        Due.is("one beast: no pair", -1, Due.of("beast 1 1;").twins(8, 1));
        StripeTrade y = Due.of("beast 0 0;beast 3 0;");
        Due.is("2 slips, k 1", 0, y.twins(1, 0));
        Due.is("2 slips, k 1: none", -1, y.twins(1, 1));
        Due.is("2 slips, k 2", 1, y.twins(2, 0));
        Due.work(y, "tar 0 0;");
        Due.is("as they are now", 1, y.twins(1, 0));
        Due.work(y, "tar 0 7;tar 1 7;");
        Due.is("both as they are now", 1, y.twins(1, 0));
    }

    private static void codes() {
        Due.sentence("3", "of sets of NUMBERS of n STRIPES (below 2 to the power of n) of which any two are d SLIPS or "
                + "more apart, that of most NUMBERS, of alike ones the least bits (NUMBER k is bit k)");
        StripeTrade x = new StripeTrade();
        int[][] many = {{2, 1, 1, 1}, {4, 2, 1, 1}, {8, 4, 2, 1}, {16, 8, 2, 2}};
        // By 3, 3: 3 and 4; by 4, 4: 7 and 8; by 2, 2: 1 and 2; one alone: 0.
        int[][] sets = {{3, 1, 1, 1}, {15, 6, 1, 1}, {255, 105, 24, 1}, {65535, 27030, 24, 384}};
        for (int n = 1; n <= 4; n++) {
            for (int d = 1; d <= 4; d++) {
                Due.is("how many by " + n + ", " + d, many[n - 1][d - 1], x.code(n, d, 0));
                Due.is("the set by " + n + ", " + d, sets[n - 1][d - 1], x.code(n, d, 1));
            }
        }
    }

    private static void parents() {
        Due.sentence("20", "PARENTS of N (0 to 255): 0 how many, 1 the first (10 times the lesser, and the other one; NONE).");
        StripeTrade x = Due.of("beast 0 0;beast 128 0;beast 1 0;beast 255 0;beast 128 0;beast 0 0;beast 254 0;beast 127 0;");
        Due.is("0 as 0 + 0, 128 + 128, 1 + 255", 3, x.parents(0, 0));
        Due.is("0: the first", 5, x.parents(0, 1));
        Due.is("255 as 0 + 255 (2), 128 + 127 (2), 1 + 254", 5, x.parents(255, 0));
        Due.is("255: the first", 3, x.parents(255, 1));
        Due.is("253 as 255 + 254", 36, x.parents(253, 1));
        Due.is("125 as 254 + 127", 67, x.parents(125, 1));
        Due.is("none", 0, x.parents(77, 0));
        Due.is("none: no first", -1, x.parents(77, 1));
        Due.is("one beast is no pair", 0, Due.of("beast 4 0;").parents(8, 0));
        StripeTrade y = Due.of("beast 4 0;beast 8 0;");
        Due.work(y, "tar 0 0;foal 0 1;");
        Due.is("as they were born", 1, y.parents(12, 1));
        Due.is("not as they are", 0, y.parents(13, 0));
        Due.is("a foal is one", 2, y.parents(16, 1));
    }

    private static void herds() {
        Due.sentence("21", "HERD of a sum (0 to 2,040): 0 how many, 1 the first (NONE)");
        StripeTrade x = Due.of("beast 255 0;".repeat(8));
        Due.is("2040 by all", 1, x.herd(2040, 0));
        Due.is("2040: all", 255, x.herd(2040, 1));
        Due.is("2040: all are sure", 255, x.herd(2040, 2));
        Due.is("2039", 0, x.herd(2039, 0));
        Due.is("2039: no first", -1, x.herd(2039, 1));
        Due.is("2039: none sure", 0, x.herd(2039, 2));
        Due.is("255 by each", 8, x.herd(255, 0));
        Due.is("255: the first", 1, x.herd(255, 1));
        Due.is("1020 by four of eight", 70, x.herd(1020, 0));
        Due.is("0 by none", 1, x.herd(0, 0));
        Due.is("0: none", 0, x.herd(0, 1));
        Due.sentence("3", "sets of BEASTS whose NUMBERS (as they are now) add up to it (not left by 256)");
        StripeTrade y = Due.of("beast 200 0;beast 100 0;beast 0 0;");
        Due.is("44 is not 300", 0, y.herd(44, 0));
        Due.is("300, with 0 or without", 2, y.herd(300, 0));
        Due.is("300: without", 3, y.herd(300, 1));
        Due.is("0, with 0 or without", 2, y.herd(0, 0));
        Due.work(y, "tar 2 0;");
        Due.is("as they are now: 300", 1, y.herd(300, 0));
        Due.is("as they are now: 301", 7, y.herd(301, 1));
        Due.is("no beasts: 0", 1, new StripeTrade().herd(0, 0));
        Due.is("no beasts: 1", 0, new StripeTrade().herd(1, 0));
    }

    private static void sure() {
        Due.sentence("21", "2 SURE (bits; 0 without)");
        StripeTrade x = Due.of("beast 1 0;beast 2 0;beast 3 0;beast 4 0;");
        Due.is("7 as 1 + 2 + 4, 3 + 4", 8, x.herd(7, 2));
        Due.is("6 as 1 + 2 + 3, 2 + 4", 2, x.herd(6, 2));
        Due.is("5 as 2 + 3, 1 + 4", 0, x.herd(5, 2));
        Due.is("10 as all", 15, x.herd(10, 2));
        Due.is("11: none", 0, x.herd(11, 2));
        Due.is("0: none", 0, x.herd(0, 2));
    }

    private static void ask() {
        Due.sentence("22", "ASK of a sum: 0 the BEAST, 1 how many sets are left at the worst; NONE: there are no BEASTS.");
        Due.is("no beasts", -1, new StripeTrade().ask(0, 0));
        Due.is("no beasts: none left", -1, new StripeTrade().ask(0, 1));
        Due.is("no beasts, but gates", -1, Due.of("gate 0 0;").ask(2040, 1));
        Due.is("one beast", 0, Due.of("beast 0 0;").ask(0, 0));
        Due.is("one beast of 0: it is there, or not", 1, Due.of("beast 0 0;").ask(0, 1));
        Due.is("no sets: the first", 0, Due.of("beast 1 0;beast 2 0;").ask(9, 0));
        Due.is("no sets: none is left", 0, Due.of("beast 1 0;beast 2 0;").ask(9, 1));
        Due.sentence("3", "the BEAST by which, told whether it is there, fewest such sets are left at the worst, of these "
                + "the first");
        // 3 as 3; 1 + 2 (by two of each but one): beast 0 is in 4 of 5, beast 3 in 1, beasts 1, 2, 4, 5 in 2 each.
        StripeTrade x = Due.of("beast 9 0;beast 1 0;beast 1 0;beast 3 0;beast 2 0;beast 2 0;");
        Due.is("sets", 5, x.herd(3, 0));
        Due.is("beast 1", 1, x.ask(3, 0));
        Due.is("3 are left", 3, x.ask(3, 1));
        Due.work(x, "tar 0 1;wash 0;rub 1 0;tar 1 2;");
        // Now 4 stands for the first 1: 3 as 3; 1 + 2 by either of the 2.
        Due.is("as they are now: beast 2", 2, x.ask(3, 0));
        Due.is("as they are now: 2 are left", 2, x.ask(3, 1));
        StripeTrade z = Due.of("beast 9 0;".repeat(7) + "beast 0 0;");
        for (int again = 0; again < 2; again++) {
            Due.is("none, or the eighth alone", 7, z.ask(0, 0));
            Due.is("one is left", 1, z.ask(0, 1));
        }
        StripeTrade y = Due.of("beast 255 0;".repeat(8));
        Due.is("1020 by four of eight", 35, y.ask(1020, 1));
        Due.is("1020: the first", 0, y.ask(1020, 0));
        Due.is("2040", 1, y.ask(2040, 1));
    }

    private static void cover() {
        Due.sentence("3", "COVER of told BEASTS (bits): the fewest GATES of which each told BEAST has one that OPENS, of "
                + "as few the least bits; NONE.");
        StripeTrade x = Due.of("beast 1 0;beast 2 0;beast 4 0;beast 8 0;beast 128 0;gate 0 0;gate 0 0;gate 0 0;gate 0 0;"
                + "gate 0 0;list 0 1;list 1 2;list 2 4;list 3 8;list 4 1;list 4 2;list 4 4;");
        Due.is("nobody", 0, x.cover(0));
        Due.is("beast 0: of alike ones the least", 1, x.cover(1));
        Due.is("beasts 0, 1: one gate", 16, x.cover(3));
        Due.is("beasts 0, 1, 2: one gate", 16, x.cover(7));
        Due.is("beasts 0, 1, 2, 3: two gates", 24, x.cover(15));
        Due.is("beasts 2, 3: of alike ones the least", 12, x.cover(12));
        Due.is("nobody opens to beast 4", -1, x.cover(16));
        Due.is("nobody opens to beast 4, though others to 0", -1, x.cover(17));
        Due.work(x, "rub 4 7;tar 4 3;");
        Due.is("as it is now", 8, x.cover(16));
        Due.is("all", 24, x.cover(31));
        Due.is("no beasts", 0, Due.of("gate 0 0;").cover(0));
        Due.is("no gates", 0, Due.of("beast 1 1;").cover(0));
        Due.is("no gates for one", -1, Due.of("beast 1 1;").cover(1));
        StripeTrade y = Due.of("beast 1 0;beast 2 0;beast 4 0;beast 8 0;beast 16 0;" + "gate 0 0;".repeat(5)
                + "list 0 1;list 1 2;list 2 4;list 3 8;list 4 16;");
        Due.is("all five gates", 31, y.cover(31));
    }

    private static void list() {
        Due.sentence("3", "LIST of told BEASTS by k: the fewest NUMBERS (0 to 255) of a list by which a GATE that "
                + "forgives k OPENS to all of them and to no other BEAST; NONE.");
        StripeTrade x = Due.of("beast 0 0;beast 1 0;beast 2 0;beast 4 0;beast 8 0;beast 16 0;beast 32 0;beast 64 0;");
        Due.is("nobody", 0, x.list(0, 0));
        Due.is("all by 1: the number 0", 1, x.list(255, 1));
        Due.is("all by 0", 8, x.list(255, 0));
        Due.is("all by 3", 1, x.list(255, 3));
        Due.is("all but 0 by 1: 3, 12, 48, 192", 4, x.list(254, 1));
        Due.is("all but 0, 1 by 1: 6, 24, 96", 3, x.list(252, 1));
        Due.is("two by 1", 1, x.list(6, 1));
        Due.is("one by 3: what is 3 from 64 is 3 from others, too", -1, x.list(128, 3));
        StripeTrade y = Due.of("beast 5 0;beast 5 0;beast 6 0;");
        Due.is("a twin comes in, too", -1, y.list(1, 0));
        Due.is("with its twin", 1, y.list(3, 0));
        Due.is("without them", 1, y.list(4, 3));
        Due.work(y, "tar 1 7;");
        Due.is("as they are now", 1, y.list(1, 0));
        StripeTrade z = Due.of("beast 0 0;beast 255 0;");
        Due.is("8 apart by 3", 1, z.list(1, 3));
        Due.is("8 apart by 3: both", 2, z.list(3, 3));
        StripeTrade all = Due.of("beast 0 0;beast 1 0;");
        Due.is("1 apart by 1: both by one", 1, all.list(3, 1));
        Due.is("1 apart by 1: one", 1, all.list(1, 1));
        Due.is("no beasts", 0, new StripeTrade().list(0, 3));
        Due.is("by the number 255 alone", 1, Due.of("beast 255 0;").list(1, 0));
        Due.is("by the number 0 alone", 1, Due.of("beast 0 0;").list(1, 0));
    }
}
