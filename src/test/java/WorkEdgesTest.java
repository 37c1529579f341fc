/** A test for each sentence that names a boundary of a WORK: "Terms", its FAULTS, "2.", promises 5 and 6. */
public final class WorkEdgesTest {
    private static final String TWO = "beast 5 3;beast 250 1;gate 0 10;list 0 5;purse 25;";

    private WorkEdgesTest() {
    }

    public static void main(String[] args) {
        hundredAndFiftyBytes();
        stripesOfSteps();
        rounds();
        beastsAsTheWorkBegins();
        gatesThere();
        tokens();
        firstFromTheLeft();
        whatCantStandThere();
        noneSuch();
        seventhOpen();
        ofOneTheLeast();
        atFirst();
        inOrder();
        refusedChangesNothing();
        twoHundredBegun();
        againsAreBegun();
        refusedAreBegun();
        leftOut();
        tarAndRub();
        wash();
        passOpens();
        passCoins();
        feeGoes();
        foal();
        foalEight();
        year();
        year300();
        howManyWereDone();
        noneIsDone();
        exceptionStays();
        sixteenWorks();
        placeOfTheFault();
        Due.end();
    }

    /** 187 steps are begun by it, 180 of them years. */
    private static final String YEARS = "again 6[again 30[year;];];";

    private static void done(StripeTrade x, int done, int refused, String text) {
        Due.is("work of '" + text + "'", done, Due.work(x, text));
        Due.is("refused by '" + text + "'", refused, x.told(6));
    }

    private static void fault(int answer, int place, String text) {
        StripeTrade x = Due.of(TWO);
        String before = Due.state(x);
        Due.is("work of '" + text + "'", answer, Due.work(x, text));
        Due.is("fault() of '" + text + "'", place, x.fault());
        Due.same("none is done of '" + text + "'", before, Due.state(x));
    }

    private static void hundredAndFiftyBytes() {
        Due.sentence("Terms", "WORK is a text of up to 150 bytes");
        StripeTrade x = Due.of(TWO);
        done(x, 1, 0, " ".repeat(145) + "year;");
        done(x, 30, 0, "year;".repeat(30));
        fault(-9, 150, " ".repeat(146) + "year");
        fault(-9, 149, "year;".repeat(29) + "year]");
        Due.feed(x, "year;" + " ".repeat(155));
        Due.refusedArgument("work(151)", () -> x.work(151));
        Due.is("work(150)", 1, x.work(150));
    }

    private static void stripesOfSteps() {
        Due.sentence("Terms", "\"tar\" B S, \"rub\" B S (S 0 to 7)");
        StripeTrade x = Due.of("beast 0 0;beast 255 0;");
        for (int s = 0; s < 8; s++) {
            done(x, 2, 0, "tar 0 " + s + ";rub 1 " + s + ";");
            Due.is("tarred", (2 << s) - 1, x.beast(0, 0));
            Due.is("rubbed", 256 - (2 << s), x.beast(1, 0));
        }
        fault(-8, 6, "tar 0 8;");
        fault(-8, 6, "rub 0 8;");
        fault(-8, 6, "tar 0 4294967296;");
    }

    private static void rounds() {
        Due.sentence("Terms", "\"again\" N \"[\" { STEP \";\" } \"]\" (N 0 to 30)");
        StripeTrade x = Due.of("");
        done(x, 0, 0, "again 0 [year;];");
        done(x, 1, 0, "again 1 [year;];");
        done(x, 30, 0, "again 30 [year;];");
        done(x, 60, 0, "again 30 [year;year;];");
        done(x, 0, 0, "again 30 [];");
        done(x, 6, 0, "again 2 [again 3 [year;];];");
        Due.is("the years", 97, x.told(2));
        fault(-8, 6, "again 31 [year;];");
        fault(-8, 6, "again 4294967296 [year;];");
    }

    private static void beastsAsTheWorkBegins() {
        Due.sentence("Terms", "A, B are BEASTS that are there as the WORK begins: foals of its own STEPS are none yet.");
        fault(-8, 4, "tar 2 0;");
        fault(-8, 4, "rub 2 0;");
        fault(-8, 5, "wash 2;");
        fault(-8, 5, "pass 2 0;");
        fault(-8, 5, "foal 2 0;");
        fault(-8, 7, "foal 0 2;");
        fault(-8, 13, "foal 0 1;tar 2 0;");
        fault(-8, 22, "again 2[foal 0 1;wash 2;];");
        StripeTrade x = Due.of(TWO);
        done(x, 1, 0, "foal 0 1;");
        done(x, 2, 0, "foal 2 0;rub 2 1;");
        Due.is("foals of another work are beasts", 4, x.told(0));
        x.undo();
        Due.is("foals of work that was undone are none", -8, Due.work(x, "tar 3 0;"));
        StripeTrade none = Due.of("gate 0 0;");
        Due.is("no beasts", -8, Due.work(none, "wash 0;"));
        Due.is("at the number", 5, none.fault());
        StripeTrade one = Due.of("beast 1 1;");
        Due.is("one beast, foal", -8, Due.work(one, "foal 0 1;"));
        Due.is("at B", 7, one.fault());
    }

    private static void gatesThere() {
        Due.sentence("Terms", "\"pass\" B G");
        fault(-8, 7, "pass 0 1;");
        StripeTrade x = Due.of("beast 0 0;" + "gate 0 0;".repeat(5) + "list 4 0;");
        done(x, 1, 0, "pass 0 4;");
        Due.is("gate 4 was passed", 1, x.gate(4, 3));
        Due.is("no gate 5", -8, Due.work(x, "pass 0 5;"));
        Due.is("no gates", -8, Due.work(Due.of("beast 0 0;"), "pass 0 0;"));
    }

    private static void tokens() {
        Due.sentence("Terms", "blanks (32) may stand ahead of all these, and at the end");
        StripeTrade x = Due.of(TWO);
        done(x, 4, 0, "  tar  0  1  ;  again  2  [  year  ;  ]  ;  rub  0  1  ;  ");
        done(x, 4, 0, "tar0 1;again2[year;];rub0 1;");
        done(x, 0, 0, "    ");
        fault(-9, 3, "tar\t0 1;");
        fault(-9, 0, "\nyear;");
        fault(-9, 5, "year;\u0000");
        fault(-9, 0, "ye ar;");
        Due.sentence("Terms", "Numbers: digits, as many as stand there");
        done(x, 1, 0, "tar 0000000000000000000000 00000000000000000000000001;");
        fault(-9, 6, "tar 01;");
        Due.sentence("Terms", "WORDS: small letters, as many as stand there");
        fault(-9, 0, "years;");
        fault(-9, 0, "yearyear;");
        fault(-9, 0, "yearz;");
        fault(-9, 0, "yeara;");
        fault(-9, 0, "Year;");
        fault(-9, 0, "tars 0 1;");
        fault(-9, 0, "ta 0 1;");
        fault(-9, 0, "rubs 0 1;");
        fault(-9, 0, "washs 0;");
        fault(-9, 0, "passs 0 0;");
        fault(-9, 0, "foals 0 1;");
        fault(-9, 0, "agains 1 [];");
        fault(-9, 0, "agai 1 [];");
        fault(-9, 0, "beast 1 1;");
    }

    private static void firstFromTheLeft() {
        Due.sentence("Terms", "FAULTS, the first from the left, at its first byte");
        fault(-8, 4, "tar 2 8;");
        fault(-8, 6, "tar 0 8,");
        fault(-9, 5, "year;tars 2 8;");
        fault(-8, 9, "year;tar 9 9;yea");
        fault(-8, 9, "tar      09 1;");
        fault(-9, 8, "year    year;");
        fault(-7, 57, "again 1 [".repeat(6) + "   again 99");
    }

    private static void whatCantStandThere() {
        Due.sentence("Terms", "1 what can't stand there (at the length, if the text ends too early)");
        fault(-9, 4, "year");
        fault(-9, 7, "year   ");
        fault(-9, 3, "tar");
        fault(-9, 5, "tar 0");
        fault(-9, 7, "tar 0 1");
        fault(-9, 4, "wash");
        fault(-9, 6, "wash 0");
        fault(-9, 6, "foal 0");
        fault(-9, 6, "pass 0");
        fault(-9, 5, "again");
        fault(-9, 7, "again 1");
        fault(-9, 9, "again 1 [");
        fault(-9, 14, "again 1 [year;");
        fault(-9, 15, "again 1 [year;]");
        fault(-9, 16, "again 1 [year;] ");
        fault(-9, 5, "year;;");
        fault(-9, 0, ";");
        fault(-9, 0, "]");
        fault(-9, 5, "year;]");
        fault(-9, 5, "year;[");
        fault(-9, 0, "[year;];");
        fault(-9, 0, "3;");
        fault(-9, 13, "again 1 [year];");
        fault(-9, 8, "again 1 (year;);");
        fault(-9, 16, "again 1 [year;];];");
        fault(-9, 15, "again 1 [year;]year;");
        fault(-9, 5, "year 1;");
        fault(-9, 5, "tar 0;");
        fault(-9, 8, "tar 0 1 2;");
        fault(-9, 7, "wash 0 1;");
        fault(-9, 4, "tar -1 0;");
        fault(-9, 4, "year,");
        fault(-9, 4, "year\u00ff");
        StripeTrade x = Due.of("");
        Due.feed(x, "year;year;year;year;");
        Due.is("the length is n, not that of the tape", -9, x.work(9));
        Due.is("at n", 9, x.fault());
        Due.feed(x, "years;");
        Due.is("a word is cut by n", -9, x.work(4));
        Due.is("behind the word", 4, x.fault());
    }

    private static void noneSuch() {
        Due.sentence("Terms", "2 a number that is none such (B of foal as A)");
        fault(-8, 7, "foal 0 0;");
        fault(-8, 7, "foal 1 1;");
        fault(-8, 7, "foal 1 001;");
        fault(-8, 7, "foal 0 0");
        fault(-8, 5, "foal 2 2;");
        fault(-8, 7, "foal 1 2;");
        fault(-8, 16, "again 1 [foal 1 1;];");
        StripeTrade x = Due.of(TWO);
        done(x, 2, 0, "foal 0 1;foal 1 0;");
        fault(-8, 6, "again 31");
        fault(-8, 4, "tar 2");
        fault(-8, 6, "tar 0 8");
        fault(-8, 5, "wash 2");
        fault(-8, 7, "pass 0 1");
    }

    private static void seventhOpen() {
        Due.sentence("Terms", "a 7th of ( least most again that is open at one time");
        StripeTrade x = Due.of("");
        done(x, 1, 0, "again 1 [".repeat(6) + "year;" + "];".repeat(6));
        fault(-7, 54, "again 1 [".repeat(7) + "year;" + "];".repeat(7));
        fault(-7, 54, "again 1 [".repeat(6) + "again");
        fault(-7, 59, "again 1 [".repeat(6) + "year;" + "again 1 [];" + "];".repeat(6));
        done(x, 0, 0, "again0[];".repeat(16));
        done(x, 2, 0, "again1[".repeat(5) + "again1[year;];again1[year;];" + "];".repeat(5));
        done(x, 2, 0, "again1[".repeat(6) + "year;" + "];".repeat(6) + "again1[".repeat(6) + "year;" + "];".repeat(6));
    }

    private static void ofOneTheLeast() {
        Due.sentence("Terms", "of one the least");
        fault(-9, 54, "again 1 [".repeat(6) + "agains");
        fault(-9, 59, "again 1 [".repeat(6) + "year again 1 [];");
        fault(-9, 5, "year 99999;");
        fault(-9, 8, "tar 0 1 99999;");
    }

    private static void atFirst() {
        Due.sentence("2", "It is YEAR 0 at first, nobody is tarred, rubbed, has passed.");
        StripeTrade x = Due.of(TWO);
        Due.is("the year", 0, x.told(2));
        Due.is("nobody is tarred or rubbed", 0, x.told(8));
        Due.is("nobody has passed", 0, x.told(7) + x.beast(0, 3) + x.beast(1, 3) + x.gate(0, 3));
        Due.is("nothing was taken", 0, x.told(4) + x.gate(0, 4));
    }

    private static void inOrder() {
        Due.sentence("2", "STEPS are done in order");
        StripeTrade x = Due.of(TWO);
        done(x, 3, 0, "tar 0 1;rub 0 1;tar 0 1;");
        Due.is("the last tars", 7, x.beast(0, 0));
        done(x, 1, 1, "tar 0 1;rub 0 1;");
        Due.is("the last rubs", 5, x.beast(0, 0));
        done(x, 2, 1, "pass 0 0;tar 0 1;pass 0 0;");
        done(x, 5, 1, "again 2 [rub 0 1;tar 0 1;];wash 0;wash 0;");
    }

    private static void refusedChangesNothing() {
        Due.sentence("2", "one that can't be done is REFUSED, and changes nothing");
        String trade = "beast 5 3;beast 250 1;gate 0 10;list 0 5;list 0 250;purse 9;";
        String[] steps = {"tar 0 0;", "rub 0 1;", "wash 1;", "pass 0 0;", "pass 1 0;"};
        for (String step : steps) {
            StripeTrade x = Due.of(trade);
            x.work(0);
            String before = Due.state(x).replace("told 2 1 0 9 0 2 0", "told 2 1 0 9 0 2 1");
            x.undo();
            done(x, 0, 1, step);
            Due.same("behind " + step, before, Due.state(x));
        }
        StripeTrade full = Due.of("beast 5 3;".repeat(8));
        String eight = Due.state(full);
        done(full, 0, 1, "foal 0 1;");
        full.undo();
        Due.same("behind a foal that was refused, undone", eight, Due.state(full));
        StripeTrade old = Due.of("beast 5 3;");
        done(old, 180, 0, YEARS);
        done(old, 120, 0, "again 4[again 30[year;];];");
        old.work(0);
        String before = Due.state(old);
        old.undo();
        done(old, 0, 1, "year;");
        Due.same("behind a year that was refused", before.replace("300 100 0 0 0", "300 100 0 0 1"), Due.state(old));
    }

    private static void twoHundredBegun() {
        Due.sentence("2", "200 STEPS at most are begun by one WORK");
        StripeTrade x = Due.of("");
        done(x, 191, 0, YEARS + "again 11[year;];");
        x.undo();
        done(x, 192, 0, YEARS + "again 12[year;];");
        x.undo();
        done(x, 192, 0, YEARS + "again 13[year;];");
        x.undo();
        done(x, 192, 0, YEARS + "again 11[year;];year;year;year;");
        Due.is("the years", 192, x.told(2));
        done(x, 30, 0, "again 30[year;];");
        Due.is("another work begins as many again", 222, x.told(2));
    }

    private static void againsAreBegun() {
        Due.sentence("2", "an again, too, each time it is come to");
        StripeTrade x = Due.of("");
        done(x, 0, 0, "again 30[again 30[again 0[];];];year;");
        done(x, 191, 0, YEARS + "again 11[year;];again 5[year;];");
        x.undo();
        done(x, 191, 0, YEARS + "again 11[year;];again 0[year;];year;");
        x.undo();
        done(x, 191, 0, YEARS + "again 10[year;];again 30[];year;");
        x.undo();
        done(x, 191, 0, YEARS + "again 10[year;];again 30[];year;year;");
        x.undo();
        // 61 steps by each of the first three; 17 are left: the last one, and 8 years behind 8 agains.
        done(x, 98, 0, "again 30[again 1[year;];];".repeat(3) + "again 9[again 1[year;];];year;");
    }

    private static void refusedAreBegun() {
        Due.sentence("2", "REFUSED ones, too");
        StripeTrade x = Due.of("beast 0 0;");
        done(x, 1, 191, "again 6[again 30[wash 0;];];again 11[wash 0;];year;");
        done(x, 0, 192, "again 6[again 30[wash 0;];];again 12[wash 0;];year;");
        Due.is("the years", 1, x.told(2));
    }

    private static void leftOut() {
        Due.sentence("2", "what would come behind is left out");
        StripeTrade x = Due.of("beast 0 0;");
        done(x, 0, 192, "again 30[again 30[wash 0;];];tar 0 0;");
        done(x, 186, 6, "again 30[again 30[year;];wash 0;];tar 0 0;");
        Due.is("it is not tarred", 0, x.beast(0, 0));
        Due.is("the years", 186, x.told(2));
        Due.is("undone as a whole", 1, x.undo());
        Due.is("the years", 0, x.told(2));
    }

    private static void tarAndRub() {
        Due.sentence("2", "tar: STRIPE S of B is 1 (REFUSED, if it is); rub: it is 0 (REFUSED, if it is)");
        StripeTrade x = Due.of("beast 5 0;beast 5 0;");
        done(x, 0, 1, "tar 0 0;");
        done(x, 0, 1, "rub 0 1;");
        done(x, 1, 0, "tar 0 1;");
        Due.is("5 and 2", 7, x.beast(0, 0));
        done(x, 0, 1, "tar 0 1;");
        done(x, 1, 0, "rub 0 0;");
        Due.is("7 less 1", 6, x.beast(0, 0));
        done(x, 0, 1, "rub 0 0;");
        Due.is("as it was born", 5, x.beast(0, 1));
        Due.is("the other one", 5, x.beast(1, 0));
        Due.is("changed ones", 1, x.told(8));
        done(x, 2, 0, "tar 0 0;rub 0 1;");
        Due.is("changed ones: as born again by tar and rub", 0, x.told(8));
    }

    private static void wash() {
        Due.sentence("2", "wash: its NUMBER is as it was born (REFUSED, if it is)");
        StripeTrade x = Due.of("beast 5 0;beast 3 0;");
        done(x, 0, 1, "wash 0;");
        done(x, 5, 0, "tar 0 7;tar 0 1;rub 0 0;tar 1 2;wash 0;");
        Due.is("as it was born", 5, x.beast(0, 0));
        Due.is("the other one is not washed", 7, x.beast(1, 0));
        done(x, 0, 1, "wash 0;");
        done(x, 2, 1, "tar 0 1;rub 0 1;wash 0;");
        done(x, 1, 0, "foal 0 1;");
        done(x, 2, 1, "wash 2;rub 2 3;wash 2;");
        Due.is("a foal's", 8, x.beast(2, 0));
    }

    private static void passOpens() {
        Due.sentence("2", "A GATE OPENS to a BEAST, if a NUMBER of its list is no more than K SLIPS from that of the "
                + "BEAST as it is now.");
        int[] numbers = {0, 1, 3, 7, 15};
        for (int k = 0; k <= 3; k++) {
            StripeTrade x = Due.of("beast 0 0;gate " + k + " 0;list 0 255;list 0 " + numbers[k] + ";");
            Due.is("forgives " + k + ": opens", 1, x.gate(0, 5));
            done(x, 1, 0, "pass 0 0;");
            StripeTrade y = Due.of("beast 0 0;gate " + k + " 0;list 0 255;list 0 " + numbers[k + 1] + ";");
            Due.is("forgives " + k + ": does not open", 0, y.gate(0, 5));
            done(y, 0, 1, "pass 0 0;");
        }
        StripeTrade x = Due.of("beast 5 0;gate 0 0;gate 0 0;gate 3 0;list 0 7;list 1 5;");
        done(x, 1, 1, "pass 0 0;pass 0 1;");
        done(x, 2, 1, "tar 0 1;pass 0 0;pass 0 1;");
        done(x, 0, 1, "pass 0 2;");
        Due.is("a gate without a list opens to nobody", 0, x.gate(2, 5));
    }

    private static void passCoins() {
        Due.sentence("2", "or the dealer has fewer coins than the FEE");
        done(Due.of("beast 0 0;gate 0 10;list 0 0;purse 10;"), 1, 0, "pass 0 0;");
        done(Due.of("beast 0 0;gate 0 10;list 0 0;purse 9;"), 0, 1, "pass 0 0;");
        done(Due.of("beast 0 0;gate 1 10;list 0 1;purse 12;"), 1, 0, "pass 0 0;");
        done(Due.of("beast 0 0;gate 1 10;list 0 1;purse 11;"), 0, 1, "pass 0 0;");
        done(Due.of("beast 0 0;gate 0 0;list 0 0;purse 0;"), 3, 0, "pass 0 0;pass 0 0;pass 0 0;");
        done(Due.of("beast 0 0;gate 0 1;list 0 0;purse 0;"), 0, 1, "pass 0 0;");
        done(Due.of("beast 0 0;gate 0 4;gate 0 3;list 0 0;list 1 0;purse 11;"), 3, 2,
                "pass 0 0;pass 0 0;pass 0 0;pass 0 1;pass 0 1;");
    }

    private static void feeGoes() {
        Due.sentence("2", "the FEE goes from the dealer to the GATE");
        StripeTrade x = Due.of("beast 0 0;beast 1 0;gate 0 4;gate 1 3;list 0 0;list 1 0;purse 30;");
        done(x, 4, 1, "pass 0 0;pass 1 1;pass 0 1;pass 1 0;pass 1 1;");
        Due.is("coins", 30 - 4 - 5 - 3 - 5, x.told(3));
        Due.is("what gate 0 took", 4, x.gate(0, 4));
        Due.is("what gate 1 took", 13, x.gate(1, 4));
        Due.is("in all", 17, x.told(4));
        Due.is("who passed gate 0", 1, x.gate(0, 3));
        Due.is("who passed gate 1", 3, x.gate(1, 3));
        Due.is("how often beast 0", 2, x.beast(0, 3));
        Due.is("how often beast 1", 2, x.beast(1, 3));
        Due.is("passings in all", 4, x.told(7));
    }

    private static void foal() {
        Due.sentence("2", "born of both their NUMBERS as they were born, added, what is left by 256; AGE 0");
        StripeTrade x = Due.of("beast 255 40;beast 0 7;beast 1 0;beast 255 0;beast 3 0;");
        done(x, 1, 0, "foal 0 1;");
        Due.is("255 and 0", 255, x.beast(5, 0));
        done(x, 1, 0, "foal 2 0;");
        Due.is("1 and 255", 0, x.beast(6, 0));
        done(x, 1, 0, "foal 3 0;");
        Due.is("255 and 255", 254, x.beast(7, 0));
        Due.is("as it was born", 254, x.beast(7, 1));
        Due.is("its age", 0, x.beast(7, 2));
        Due.is("it has not passed", 0, x.beast(7, 3));
        StripeTrade y = Due.of("beast 1 0;beast 2 0;");
        done(y, 4, 0, "tar 0 4;tar 1 5;foal 0 1;year;");
        Due.is("of numbers as they were born", 3, y.beast(2, 0));
        Due.is("no number is changed by it", 3, y.told(8));
        Due.is("a year old", 1, y.beast(2, 2));
        done(y, 1, 0, "foal 0 1;");
        Due.is("the next number is 3", 4, y.told(0));
        Due.is("its age", 0, y.beast(3, 2));
        done(y, 3, 0, "tar 2 7;foal 2 0;rub 2 7;");
        Due.is("of a foal as it was born", 4, y.beast(4, 0));
    }

    private static void foalEight() {
        Due.sentence("2", "REFUSED, if there are 8");
        StripeTrade x = Due.of("beast 1 5;beast 2 5;beast 3 5;beast 4 5;beast 5 5;beast 6 5;");
        done(x, 2, 3, "again 5[foal 0 1;];");
        Due.is("beasts", 8, x.told(0));
        done(x, 0, 1, "foal 6 7;");
        done(x, 1, 1, "foal 0 1;tar 7 7;");
        Due.is("the eighth", 131, x.beast(7, 0));
        StripeTrade y = Due.of("beast 1 5;".repeat(8));
        done(y, 0, 1, "foal 0 7;");
        Due.is("beasts", 8, y.told(0));
    }

    private static void year() {
        Due.sentence("2", "all AGES are one more; the next YEAR");
        StripeTrade x = Due.of("beast 1 0;beast 2 40;");
        done(x, 2, 0, "year;foal 0 1;");
        done(x, 1, 0, "year;");
        Due.is("from 0", 2, x.beast(0, 2));
        Due.is("beyond 40", 42, x.beast(1, 2));
        Due.is("a foal", 1, x.beast(2, 2));
        Due.is("the year", 2, x.told(2));
    }

    private static void year300() {
        Due.sentence("2", "year (REFUSED from 300 on)");
        StripeTrade x = Due.of("beast 1 40;");
        done(x, 150, 0, "again 5[again 30[year;];];");
        done(x, 149, 0, "again 4[again 30[year;];];again 29[year;];");
        Due.is("year 299", 299, x.told(2));
        done(x, 1, 0, "year;");
        Due.is("year 300", 300, x.told(2));
        done(x, 0, 2, "year;year;");
        Due.is("still 300", 300, x.told(2));
        Due.is("no older", 340, x.beast(0, 2));
        x.undo();
        x.undo();
        done(x, 1, 2, "year;year;year;");
    }

    private static void howManyWereDone() {
        Due.sentence("5", "how many STEPS were done (agains not counted, nor REFUSED ones)");
        StripeTrade x = Due.of(TWO);
        done(x, 0, 0, "");
        done(x, 1, 0, "year;");
        done(x, 0, 1, "wash 0;");
        done(x, 3, 0, "again 3[year;];");
        done(x, 0, 0, "again 3[again 3[];];");
        done(x, 2, 3, "again 4[tar 0 1;];rub 0 1;");
        Due.feed(x, "year;year;");
        Due.is("of the first 5 bytes", 1, x.work(5));
        Due.is("the tape is empty then", 0, x.count(1));
        Due.feed(x, "year;year;");
        Due.is("of none", 0, x.work(0));
        Due.is("the tape is empty then", 0, x.count(1));
    }

    private static void noneIsDone() {
        Due.sentence("5", "or the FAULT less 10 (none is)");
        StripeTrade x = Due.of(TWO);
        done(x, 1, 2, "tar 0 1;tar 0 1;wash 1;");
        x.image();
        String before = Due.state(x);
        String[] texts = {"year;wash 0;foal 0 1;pass 1 0", "year;wash 0;foal 0 1;pass 1 1;",
            "year;wash 0;" + "again 1[".repeat(7)};
        for (int i = 0; i < 3; i++) {
            Due.is("fault " + (i + 1), i - 9, Due.work(x, texts[i]));
            Due.is("the tape is empty", 0, x.count(1));
            Due.same("the rest stays", before, Due.state(x));
        }
        Due.is("what can be undone stays", 0, x.undo());
        Due.is("as it was", 5, x.beast(0, 0));
    }

    private static void exceptionStays() {
        Due.sentence("5", "Likewise WORK (n to 150), which is done");
        StripeTrade x = Due.of(TWO);
        done(x, 1, 1, "tar 0 1;tar 0 1;");
        Due.law(x, "7+");
        Due.feed(x, "year;" + " ".repeat(150));
        String before = Due.state(x);
        int[] wrong = {-1, 151, 160, 161, Integer.MAX_VALUE, Integer.MIN_VALUE};
        for (int n : wrong) {
            Due.refusedArgument("work(" + n + ")", () -> x.work(n));
        }
        Due.is("the tape stays", 160, x.count(1));
        Due.same("all stays", before, Due.state(x));
        Due.is("the fault stays", 2, x.fault());
        Due.is("work(150)", 1, x.work(150));
        Due.refusedArgument("work(1) of an empty tape", () -> x.work(1));
        Due.feed(x, "year;");
        Due.refusedArgument("work(21) of 20 bytes", () -> x.work(21));
        Due.is("work(20) of 20 bytes", 1, x.work(20));
    }

    private static void sixteenWorks() {
        Due.sentence("5", "-20 behind the exception, ahead of the FAULT (nothing is read, there is no FAULT, the TAPE is "
                + "empty then): 16 WORKS are there that were not undone.");
        StripeTrade x = Due.of(TWO);
        x.image();
        for (int i = 0; i < 5; i++) {
            done(x, 0, 0, "");
            Due.is("a work with a fault is none", -9, Due.work(x, "x"));
            done(x, 1, 0, "year;");
            done(x, 0, 1, "wash 0;");
        }
        done(x, 1, 1, "year;wash 0;");
        Due.is("16 works", 16, x.count(2));
        String before = Due.state(x);
        Due.law(x, "7+");
        Due.is("a fault ahead", 2, x.fault());
        Due.is("-20", -20, Due.work(x, "year;"));
        Due.is("there is no fault", -1, x.fault());
        Due.is("the tape is empty", 0, x.count(1));
        Due.is("ahead of the fault", -20, Due.work(x, "x"));
        Due.is("there is no fault", -1, x.fault());
        Due.is("of no steps", -20, x.work(0));
        Due.same("nothing is done", before, Due.state(x));
        Due.law(x, "7+");
        Due.feed(x, "year;" + " ".repeat(150));
        Due.refusedArgument("behind the exception: n over 150", () -> x.work(151));
        Due.refusedArgument("behind the exception: n below 0", () -> x.work(-1));
        Due.is("the tape stays", 160, x.count(1));
        Due.is("the fault stays", 2, x.fault());
        Due.is("-20", -20, x.work(150));
        Due.is("the tape is empty", 0, x.count(1));
        Due.refusedArgument("behind the exception: n over the tape", () -> x.work(1));
        Due.is("one is undone", 15, x.undo());
        done(x, 1, 0, "year;");
        Due.is("-20", -20, x.work(0));
        Due.is("the image has no works", 0, x.restore());
        done(x, 1, 0, "year;");
    }

    private static void placeOfTheFault() {
        Due.sentence("6", "The place of the FAULT of the latest text; NONE without.");
        StripeTrade x = new StripeTrade();
        Due.is("ahead of any text", -1, x.fault());
        Due.trade(x, "purse 1000;");
        Due.is("of a trade", 6, x.fault());
        Due.is("asked again", 6, x.fault());
        Due.feed(x, "1+1+");
        Due.is("feed leaves it", 6, x.fault());
        x.law(4);
        Due.is("of a law", 4, x.fault());
        x.work(0);
        Due.is("a work without", -1, x.fault());
        Due.work(x, "year;year;x");
        Due.is("of a work", 10, x.fault());
        x.image();
        x.restore();
        x.undo();
        x.undo();
        Due.is("image, restore, undo leave it", 10, x.fault());
        Due.refusedArgument("an exception", () -> x.trade(1));
        Due.refusedArgument("an exception", () -> x.law(1));
        Due.refusedArgument("an exception", () -> x.work(1));
        Due.refusedArgument("an exception", () -> x.told(9));
        Due.is("leaves it", 10, x.fault());
        Due.law(x, "1");
        Due.is("a law without", -1, x.fault());
        Due.law(x, "x");
        Due.is("at 0", 0, x.fault());
        x.trade(0);
        Due.is("a trade without", -1, x.fault());
    }
}
