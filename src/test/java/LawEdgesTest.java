/** A test for each sentence that names a boundary of a LAW: "Terms", its FAULTS, promises 4, 14 and 15. */
public final class LawEdgesTest {
    /** 2 to the power of 31, which wraps to the least number there is. */
    private static final String LEAST = "512*512*512*16";

    private LawEdgesTest() {
    }

    public static void main(String[] args) {
        hundredAndFiftyBytes();
        atTheEndNothingMore();
        without();
        feeBounds();
        numbers();
        sumsAndProducts();
        words();
        factsAsTheyAreNow();
        leastAndMost();
        wraps();
        divides();
        byZero();
        blanks();
        whatCantStandThere();
        noneSuch();
        seventhOpen();
        ofOneTheLeast();
        likewise();
        whatAnExceptionLeaves();
        would();
        Due.end();
    }

    private static void says(int fee, String law) {
        StripeTrade x = new StripeTrade();
        Due.is("law of '" + law + "'", 1, Due.law(x, law));
        Due.is("fault() of '" + law + "'", -1, x.fault());
        Due.is("fee by '" + law + "'", fee, x.would(0, 0, 0, 0, 0, 0, 0, 0));
    }

    private static void fault(int answer, int place, String law) {
        StripeTrade x = new StripeTrade();
        Due.is("law of '" + law + "'", answer, Due.law(x, law));
        Due.is("fault() of '" + law + "'", place, x.fault());
        Due.is("the usual law stays behind '" + law + "'", 56, x.would(40, 8, 0, 0, 0, 0, 0, 0));
    }

    private static void hundredAndFiftyBytes() {
        Due.sentence("Terms", "A LAW is a text of up to 150 bytes");
        says(7, " ".repeat(149) + "7");
        says(7, "7" + " ".repeat(149));
        says(75, "1" + "+1".repeat(74) + " ");
        fault(-9, 150, "1" + "+1".repeat(74) + "+");
        fault(-9, 150, " ".repeat(150));
        StripeTrade x = new StripeTrade();
        Due.feed(x, "7" + " ".repeat(159));
        Due.refusedArgument("law(151)", () -> x.law(151));
        Due.is("law(150)", 1, x.law(150));
    }

    private static void atTheEndNothingMore() {
        Due.sentence("Terms", "E, at the end nothing more");
        fault(-9, 2, "1 1");
        fault(-9, 1, "1;");
        fault(-9, 1, "1)");
        fault(-9, 5, "(1+1)(1)");
        fault(-9, 1, "1toll");
        fault(-9, 4, "toll1");
        says(1, "1 ");
    }

    private static void without() {
        Due.sentence("Terms", "without: toll + apart * 2");
        StripeTrade x = new StripeTrade();
        Due.is("of a new object", 10 + 3 * 2, x.would(10, 3, 8, 400, 999, 999, 255, 4));
        StripeTrade y = Due.of("beast 7 9;gate 0 10;list 0 0;");
        Due.is("of a trade", 10 + 3 * 2, y.fee(0, 0));
        Due.law(y, "1");
        Due.is("behind a law", 1, y.fee(0, 0));
        Due.trade(y, "beast 7 9;gate 0 10;list 0 0;");
        Due.is("of another trade", 10 + 3 * 2, y.fee(0, 0));
    }

    private static void feeBounds() {
        Due.sentence("Terms", "FEE of a passing: what comes out, 0 at least, 99 at most");
        says(0, "0");
        says(1, "1");
        says(0, "0-1");
        says(0, "0-999*999");
        says(98, "98");
        says(99, "99");
        says(99, "100");
        says(99, "999*999");
        says(0, LEAST);
        says(99, LEAST + "-1");
        StripeTrade x = Due.of("beast 0 0;gate 0 40;list 0 0;purse 99;");
        Due.law(x, "toll*3");
        Due.is("fee()", 99, x.fee(0, 0));
        Due.is("what is paid", 1, Due.work(x, "pass 0 0;"));
        Due.is("99 of 99 coins", 0, x.told(3));
        Due.law(x, "0-toll");
        Due.is("paid below 0", 1, Due.work(x, "pass 0 0;"));
        Due.is("no coins come back", 0, x.told(3));
        Due.is("the gate took no less", 99, x.gate(0, 4));
    }

    private static void numbers() {
        Due.sentence("Terms", "N (0 to 999)");
        says(0, "0");
        says(99, "999-900");
        says(7, "007");
        says(9, "0000000000009");
        fault(-8, 0, "1000");
        fault(-8, 2, "1+1000");
        fault(-8, 0, "4294967296");
        fault(-8, 0, "18446744073709551616");
        fault(-8, 0, "9".repeat(150));
        fault(-9, 0, "-1");
        fault(-9, 0, "+1");
    }

    private static void sumsAndProducts() {
        Due.sentence("Terms", "E: T { + or - T }. T: U { * or / or % U }.");
        says(7, "1+2*3");
        says(7, "2*3+1");
        says(9, "(1+2)*3");
        says(3, "9-4-2");
        says(7, "9-(4-2)");
        says(10, "9-1+2");
        says(8, "17/4*2");
        says(2, "17/(4*2)");
        says(2, "17%5%3");
        says(15, "17%9*2-1");
        says(3, "7*3%6");
        says(10, "20-9%5*3+2");
        says(2, "1+1");
        says(0, "1-1");
    }

    private static void words() {
        Due.sentence("Terms", "U: N (0 to 999), \"toll\" (T), \"apart\" (slips from the nearest NUMBER in the list)");
        String[] words = {"toll", "apart", "marks", "age", "gone", "passed", "number", "gate"};
        int[] facts = {11, 5, 6, 22, 33, 44, 77, 3};
        for (int i = 0; i < 8; i++) {
            StripeTrade x = new StripeTrade();
            Due.is(words[i], 1, Due.law(x, words[i]));
            Due.is("fee by " + words[i], facts[i], x.would(11, 5, 6, 22, 33, 44, 77, 3));
            fault(-9, 0, words[i] + "s");
            fault(-9, 0, words[i].substring(1));
            fault(-9, 0, words[i].substring(0, words[i].length() - 1));
        }
        fault(-9, 0, "Toll");
        fault(-9, 0, "tollz");
        fault(-9, 0, "tolla");
        fault(-9, 0, "list");
        fault(-9, 0, "leas[1,1]");
        fault(-9, 0, "leasts[1,1]");
        fault(-9, 0, "mos[1,1]");
        fault(-9, 0, "mosts[1,1]");
    }

    private static int feeBy(StripeTrade x, String law, int beast, int gate) {
        Due.law(x, law);
        return x.fee(beast, gate);
    }

    private static void factsAsTheyAreNow() {
        StripeTrade x = Due.of("beast 4 3;beast 0 0;gate 3 9;gate 3 8;list 0 255;list 0 7;list 1 4;purse 999;");
        Due.sentence("Terms", "\"apart\" (slips from the nearest NUMBER in the list)");
        Due.is("of 4 to 7, not to 255", 2, feeBy(x, "apart", 0, 0));
        Due.work(x, "tar 0 7;rub 0 2;tar 0 0;");
        Due.is("of 129 to 7", 3, feeBy(x, "apart", 0, 0));
        Due.sentence("Terms", "\"marks\" (STRIPES that are 1 now)");
        Due.is("of 129", 2, feeBy(x, "marks", 0, 0));
        Due.sentence("Terms", "\"number\" (as it is now)");
        Due.is("129 by 3", 43, feeBy(x, "number/3", 0, 0));
        Due.sentence("Terms", "\"age\"");
        Due.work(x, "year;year;");
        Due.is("3 and 2 years", 5, feeBy(x, "age", 0, 0));
        Due.sentence("Terms", "\"gone\" (how many passed this GATE by now)");
        Due.work(x, "pass 0 0;pass 1 0;pass 1 0;pass 1 1;");
        Due.is("gate 0", 3, feeBy(x, "gone", 0, 0));
        Due.is("gate 1", 1, feeBy(x, "gone", 0, 1));
        Due.sentence("Terms", "\"passed\" (how often the BEAST passed by now)");
        Due.is("beast 0", 1, feeBy(x, "passed", 0, 1));
        Due.is("beast 1, by both gates", 3, feeBy(x, "passed", 1, 0));
        Due.sentence("Terms", "\"gate\" (its number)");
        Due.is("gate 1", 1, feeBy(x, "gate", 0, 1));
        Due.is("gate 0", 0, feeBy(x, "gate", 0, 0));
        Due.is("toll of gate 1", 8, feeBy(x, "toll", 0, 1));
        Due.sentence("2", "the FEE goes from the dealer to the GATE");
        Due.work(x, "wash 0;wash 1;");
        Due.law(x, "gone*10+passed");
        int coins = x.told(3);
        Due.is("passes", 1, Due.work(x, "pass 0 1;"));
        Due.is("the fee of 1 gone, 1 passed", 11, coins - x.told(3));
    }

    private static void leastAndMost() {
        Due.sentence("Terms", "\"least\" \"[\" E \",\" E \"]\", \"most\" \"[\" E \",\" E \"]\"");
        says(4, "least[9,4]");
        says(4, "least[4,9]");
        says(9, "most[9,4]");
        says(9, "most[4,9]");
        says(5, "least[5,5]");
        says(5, "most[5,5]");
        says(3, "least[0-7,7]+10");
        says(17, "most[0-7,7]+10");
        says(6, "least[1+2*3,6]");
        says(99, "most[" + LEAST + "," + LEAST + "-1]");
        says(0, "least[" + LEAST + "," + LEAST + "-1]");
        says(8, "2*least[4,5]");
        fault(-9, 5, "least");
        fault(-9, 6, "least[");
        fault(-9, 7, "least[1");
        fault(-9, 7, "least[1]");
        fault(-9, 8, "least[1,");
        fault(-9, 8, "least[1,]");
        fault(-9, 9, "least[1,2");
        fault(-9, 9, "least[1,2)");
        fault(-9, 9, "least[1,2,3]");
        fault(-9, 5, "least(1,2)");
        fault(-9, 4, "most1,2");
        fault(-9, 6, "least[,2]");
        fault(-9, 0, "[1,2]");
    }

    private static void wraps() {
        Due.sentence("Terms", "Values are whole numbers of 32 bits that wrap");
        says(0, LEAST + "-1+1");
        says(99, LEAST + "-1");
        says(1, "(" + LEAST + "-1)*2+3");
        says(0, LEAST + "*2");
        says(5, LEAST + "*2+5");
        says(0, "0-" + LEAST);
        says(99, "0-1-" + LEAST);
        says(0, "256*256*256*256");
        says(1, "256*256*256*256+1");
        says(0, "(256*256*256*256+100-1)/100");
        says(85, "(0-999*999*999*999)/999/999/5");
        says(0, LEAST + "/(0-1)");
        says(0, LEAST + "%(0-1)");
        says(64, LEAST + "/(0-256)/256/512");
    }

    private static void divides() {
        Due.sentence("Terms", "/ cuts, % leaves (with the sign of what is divided)");
        says(3, "7/2");
        says(7, "(0-7)/2+10");
        says(7, "7/(0-2)+10");
        says(3, "(0-7)/(0-2)");
        says(0, "1/2");
        says(10, "(0-1)/2+10");
        says(1, "7%2");
        says(9, "(0-7)%2+10");
        says(11, "7%(0-2)+10");
        says(9, "(0-7)%(0-2)+10");
        says(0, "6%2");
        says(5, "5%7");
    }

    private static void byZero() {
        Due.sentence("Terms", "by 0 both are 0");
        says(0, "5/0");
        says(0, "5%0");
        says(0, "0/0");
        says(0, "0%0");
        says(3, "(0-5)/0+3");
        says(3, "(0-5)%0+3");
        says(7, "7+9/(2-2)");
        says(7, "7+9%toll");
        StripeTrade x = Due.of("beast 0 0;gate 0 9;list 0 0;");
        Due.law(x, "toll/gone+passed%gone+4");
        Due.is("fee", 4, x.fee(0, 0));
    }

    private static void blanks() {
        Due.sentence("Terms", "blanks (32) may stand ahead of all these, and at the end");
        says(7, " 1 + 2 * 3 ");
        says(7, "   least   [   7   ,   9   ]   ");
        says(1, " ( ( 1 ) ) % ( 2 ) / ( 1 ) - ( 0 ) ");
        says(3, "1+2");
        fault(-9, 0, "\t1");
        fault(-9, 1, "1\t+1");
        fault(-9, 1, "1\n");
        fault(-9, 1, "1\u00a0");
        fault(-9, 0, "le ast[1,2]");
    }

    private static void whatCantStandThere() {
        Due.sentence("Terms", "1 what can't stand there (at the length, if the text ends too early)");
        fault(-9, 0, "");
        fault(-9, 3, "   ");
        fault(-9, 2, "1+");
        fault(-9, 4, "1+  ");
        fault(-9, 2, "1*");
        fault(-9, 2, "1-");
        fault(-9, 2, "1/");
        fault(-9, 2, "1%");
        fault(-9, 1, "(");
        fault(-9, 2, "(1");
        fault(-9, 3, "(1+");
        fault(-9, 1, "()");
        fault(-9, 2, "(1]");
        fault(-9, 2, "1+*1");
        fault(-9, 2, "1+-1");
        fault(-9, 2, "1**1");
        fault(-9, 0, "*");
        fault(-9, 0, "%1");
        fault(-9, 0, "?");
        fault(-9, 0, ")");
        fault(-9, 1, "1^1");
        fault(-9, 3, "1+(+1)");
        fault(-9, 0, "\u00ff");
    }

    private static void noneSuch() {
        Due.sentence("Terms", "2 a number that is none such");
        fault(-8, 0, "1000");
        fault(-8, 3, "   1000+");
        fault(-8, 6, "least[1000");
        fault(-8, 8, "least[1,1000");
        fault(-8, 1, "(1000");
        fault(-8, 2, "1+1000+1001");
    }

    private static void seventhOpen() {
        Due.sentence("Terms", "a 7th of ( least most again that is open at one time");
        says(1, "((((((1))))))");
        fault(-7, 6, "(((((((1)))))))");
        says(2, "((((((1))))))+((((((1))))))");
        fault(-7, 20, "((((((1))))))+(((((((1)))))))");
        says(1, "least[1,least[1,least[1,least[1,least[1,least[1,2]]]]]]");
        fault(-7, 48, "least[1,least[1,least[1,least[1,least[1,least[1,least[1,2]]]]]]]");
        says(2, "most[most[most[most[most[most[1,2],2],2],2],2],2]");
        fault(-7, 30, "most[most[most[most[most[most[most[1,2],2],2],2],2],2],2]");
        says(1, "(least[(most[(least[1,1]),1]),1])");
        fault(-7, 20, "(least[(most[(least[(1),1]),1]),1])");
        fault(-7, 20, "(least[(most[(least[most[1,1],1]),1]),1])");
        fault(-7, 23, "(least[(most[(least[1, least[1,1]]),1]),1])");
        says(5, "(1)+(1)+(1)+(1)+(1)+(1)+(1)-(1)-(1)");
        says(1, "least[(1),(1)]*least[(1),(1)]*most[(1),(1)]*most[(1),(1)]");
        says(6, "((((((1)+(1))+(1))+(1))+(1))+(1))");
        fault(-7, 8, "( ( ((((most[999999");
    }

    private static void ofOneTheLeast() {
        Due.sentence("Terms", "of one the least");
        fault(-9, 7, "((((((1(");
        fault(-9, 8, "((((((1 least[");
        fault(-9, 6, "((((((lest[");
        fault(-9, 6, "((((((leastmost");
        fault(-9, 2, "1 1000");
    }

    private static void likewise() {
        Due.sentence("4", "Likewise the LAW (n to 150): 1.");
        StripeTrade x = Due.of("beast 5 3;gate 2 7;list 0 1;purse 50;");
        Due.work(x, "year;pass 0 0;tar 0 1;tar 0 1;");
        x.image();
        Due.feed(x, "9+1*2-3");
        Due.is("the first 3 of 20 bytes", 1, x.law(3));
        Due.is("the tape is empty", 0, x.count(1));
        Due.is("the fee", 10, x.fee(0, 0));
        Due.feed(x, "105 toll");
        Due.is("a number is cut by n", 1, x.law(2));
        Due.is("the fee", 10, x.fee(0, 0));
        Due.feed(x, "tolls");
        Due.is("a word is cut by n", 1, x.law(4));
        Due.is("the fee", 7, x.fee(0, 0));
        Due.law(x, "10");
        Due.is("the year stays", 1, x.told(2));
        Due.is("the image stays", 1, x.count(0));
        Due.is("what can be undone stays", 1, x.count(2));
        Due.is("what was refused stays", 1, x.told(6));
        String before = Due.state(x);
        String[] texts = {"7+", "7+1000", "7+((((((("};
        for (int i = 0; i < 3; i++) {
            Due.is("fault " + (i + 1), i - 9, Due.law(x, texts[i]));
            Due.is("the tape is empty", 0, x.count(1));
            Due.same("all but the tape stays", before, Due.state(x));
        }
        Due.feed(x, "7");
        Due.is("law(0)", -9, x.law(0));
        Due.is("at the length", 0, x.fault());
        Due.is("the tape is empty then", 0, x.count(1));
        x.undo();
        Due.is("undo leaves the law", 10, x.fee(0, 0));
        x.restore();
        Due.is("restore leaves the law", 10, x.fee(0, 0));
    }

    private static void whatAnExceptionLeaves() {
        Due.sentence("4", "Likewise the LAW (n to 150): 1.");
        StripeTrade x = new StripeTrade();
        Due.law(x, "5");
        Due.law(x, "6+");
        Due.feed(x, "8" + " ".repeat(150));
        String before = Due.state(x);
        int[] wrong = {-1, 151, 160, 161, Integer.MAX_VALUE, Integer.MIN_VALUE};
        for (int n : wrong) {
            Due.refusedArgument("law(" + n + ")", () -> x.law(n));
        }
        Due.is("the tape stays", 160, x.count(1));
        Due.same("all stays", before, Due.state(x));
        Due.is("the fault stays", 2, x.fault());
        Due.is("refused calls", 6, x.status(1));
        Due.is("law(150)", 1, x.law(150));
        Due.is("the fee", 8, x.would(0, 0, 0, 0, 0, 0, 0, 0));
        Due.refusedArgument("law(1) of an empty tape", () -> x.law(1));
        Due.feed(x, "8");
        Due.refusedArgument("law(21) of 20 bytes", () -> x.law(21));
        Due.is("law(20) of 20 bytes", 1, x.law(20));
    }

    private static void would() {
        Due.sentence("15", "FEE by the LAW for such toll (0 to 40), apart, marks (0 to 8), age (0 to 400), gone, passed "
                + "(0 to 999), number (0 to 255), gate (0 to 4).");
        StripeTrade x = new StripeTrade();
        Due.law(x, "toll/20+apart/4+marks/4+age/200+gone/333+passed/333+number/85+gate/2");
        Due.is("the greatest", 2 + 2 + 2 + 2 + 3 + 3 + 3 + 2, x.would(40, 8, 8, 400, 999, 999, 255, 4));
        Due.is("the least", 0, x.would(0, 0, 0, 0, 0, 0, 0, 0));
        Due.is("a gate that is not there, too", 2, x.would(0, 0, 0, 0, 0, 0, 0, 4));
        Due.law(x, "toll-50");
        Due.is("0 at least", 0, x.would(40, 0, 0, 0, 0, 0, 0, 0));
        Due.law(x, "toll+60");
        Due.is("99 at most", 99, x.would(40, 0, 0, 0, 0, 0, 0, 0));
        Due.is("99", 99, x.would(39, 0, 0, 0, 0, 0, 0, 0));
        Due.is("98", 98, x.would(38, 0, 0, 0, 0, 0, 0, 0));
    }
}
