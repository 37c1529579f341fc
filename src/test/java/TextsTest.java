/** Promises 1 to 7 and 38 to 41: the object, its tape, its three texts and their faults, what is undone and kept. */
public final class TextsTest {
    private TextsTest() {
    }

    public static void main(String[] args) {
        promise1();
        promise2();
        promise3();
        tradeFaults();
        promise4();
        lawFaults();
        promise5();
        workFaults();
        stepsBegun();
        promise6();
        promise7();
        promise38And39();
        promise40();
        promise41();
        Due.end();
    }

    private static void promise1() {
        StripeTrade x = new StripeTrade();
        Due.is("NONE", -1, StripeTrade.NONE);
        int[] due = {0, 0, 0, 100, 0, 0, 0, 0, 0};
        for (int what = 0; what < due.length; what++) {
            Due.is("1: told(" + what + ")", due[what], x.told(what));
        }
        Due.is("1: fault()", -1, x.fault());
        for (int what = 0; what < 3; what++) {
            Due.is("1: count(" + what + ")", 0, x.count(what));
        }
        Due.is("1: the usual law", 16, x.would(10, 3, 0, 0, 0, 0, 0, 0));
    }

    private static void promise2() {
        StripeTrade x = new StripeTrade();
        for (int i = 1; i <= 30; i++) {
            Due.is("2: feed " + i, 20 * i, x.feed(0x20202020, 0x20202020, 0x20202020, 0x20202020, 0x20202020));
        }
        Due.is("2: feed beyond 600", -1, x.feed(0x7a7a7a7a, 0, 0, 0, 0));
        Due.is("2: it did nothing", 600, x.count(1));
        Due.is("2: 600 blanks are a trade", 0, x.trade(600));
        Due.is("2: the highest byte first", 20, x.feed(0x70757273, 0x65203132, 0x3bffff80, -1, Integer.MIN_VALUE));
        Due.is("2: that text", 0, x.trade(9));
        Due.is("2: that text's purse", 12, x.told(3));
        x.feed(0x3bff8081, 0, 0, 0, 0);
        Due.is("2: bytes above 127 are no letters", -9, x.trade(4));
        Due.is("2: their place", 0, x.fault());
    }

    private static void promise3() {
        StripeTrade x = new StripeTrade();
        Due.refusedArgument("3: trade(-1)", () -> x.trade(-1));
        Due.refusedArgument("3: trade(1) of an empty tape", () -> x.trade(1));
        Due.feed(x, "beast 5 3;gate 2 7;purse 9;list 0 1;purse 8;");
        Due.refusedArgument("3: more than the tape has", () -> x.trade(61));
        Due.is("3: the tape stays", 60, x.count(1));
        Due.is("3: trade", 1, x.trade(44));
        Due.is("3: the tape is empty", 0, x.count(1));
        Due.is("3: the last purse counts", 8, x.told(3));
        Due.is("3: law", 1, Due.law(x, "99"));
        Due.work(x, "year;tar 0 1;");
        x.image();
        Due.work(x, "tar 0 1;");
        Due.is("3: a fault", -9, Due.trade(x, "beast 5 3;bear"));
        Due.is("3: leaves the tape empty", 0, x.count(1));
        Due.is("3: leaves the year", 1, x.told(2));
        Due.is("3: leaves the number", 7, x.beast(0, 0));
        Due.is("3: leaves the law", 99, x.fee(0, 0));
        Due.is("3: leaves the images", 1, x.count(0));
        Due.is("3: leaves the works", 2, x.count(2));
        Due.is("3: leaves what was refused", 1, x.told(6));
        Due.is("3: a new trade", 0, Due.trade(x, " gate3 0 ; list 00 000255;  "));
        Due.is("3: without a purse again", 100, x.told(3));
        Due.is("3: year 0", 0, x.told(2));
        Due.is("3: no images", 0, x.count(0));
        Due.is("3: nothing to undo", 0, x.count(2));
        Due.is("3: nothing refused", 0, x.told(6));
        Due.is("3: the usual law", 5, x.would(1, 2, 0, 0, 0, 0, 0, 0));
        Due.is("3: number with zeros ahead", 255, x.listed(0, 0));
        Due.is("3: the empty text", 0, x.trade(0));
        Due.is("3: has no gates", 0, x.told(1));
        Due.is("3: the most of each", 1, Due.trade(x, "beast 255 40;gate 3 40;list 0 255;purse 999;"));
        Due.is("3: the least of each", 1, Due.trade(x, "beast0 0;gate0 0;list0 0;purse0;"));
        Due.is("3: no coins", 0, x.told(3));
        Due.is("3: 8 beasts", 8, Due.trade(x, "beast 1 1;".repeat(8) + "gate 1 1;".repeat(5) + "list 4 2;".repeat(24)));
        Due.is("3: 24 numbers", 24, x.gate(4, 2));
        Due.is("3: 60 clauses", 0, Due.trade(x, "purse1;".repeat(60)));
    }

    private static void tradeFault(int answer, int place, String text) {
        StripeTrade x = new StripeTrade();
        Due.is("3: '" + text + "'", answer, Due.trade(x, text));
        Due.is("3: fault() of '" + text + "'", place, x.fault());
    }

    private static void tradeFaults() {
        tradeFault(-9, 0, "Beast 1 1;");
        tradeFault(-9, 2, "  5 1;");
        tradeFault(-9, 0, ";");
        tradeFault(-9, 5, "beast");
        tradeFault(-9, 7, "beast  ");
        tradeFault(-9, 6, "beast ;");
        tradeFault(-9, 8, "beast 1 ;");
        tradeFault(-9, 9, "beast 1 1");
        tradeFault(-9, 10, "beast 1 1 1;");
        tradeFault(-9, 10, "beast 1 1;x");
        tradeFault(-9, 6, "beast -1 1;");
        tradeFault(-9, 5, "beast\t1 1;");
        tradeFault(-9, 0, "beastx 1 1;");
        tradeFault(-9, 0, "tar 0 0;");
        tradeFault(-8, 6, "beast 256 41");
        tradeFault(-8, 8, "beast 0 41");
        tradeFault(-8, 7, "beast  4294967296 0;");
        tradeFault(-8, 5, "gate 4 0;");
        tradeFault(-8, 7, "gate 3 41;");
        tradeFault(-8, 5, "list 0 0;gate 0 0;");
        tradeFault(-8, 14, "gate 0 0;list 1 0;");
        tradeFault(-8, 16, "gate 0 0;list 0 256;");
        tradeFault(-8, 6, "purse 1000;");
        tradeFault(-7, 80, "beast 1 1;".repeat(8) + "beast");
        tradeFault(-7, 46, "gate 1 1;".repeat(5) + " gate 9 9;");
        tradeFault(-7, 225, "gate 1 1;" + "list 0 1;".repeat(24) + "list 9 1;");
        tradeFault(-7, 421, "purse1;".repeat(60) + " purse1;");
        tradeFault(-9, 420, "purse1;".repeat(60) + "purses1;");
        tradeFault(-9, 420, "purse1;".repeat(60) + "1");
        tradeFault(-9, 80, "beast 1 1;".repeat(8) + "beasts 1 1;");
    }

    private static void promise4() {
        StripeTrade x = new StripeTrade();
        Due.feed(x, "1" + " ".repeat(160));
        Due.refusedArgument("4: law(-1)", () -> x.law(-1));
        Due.refusedArgument("4: law(151)", () -> x.law(151));
        Due.is("4: the tape stays", 180, x.count(1));
        Due.is("4: law(150)", 1, x.law(150));
        Due.is("4: the tape is empty", 0, x.count(1));
        Due.refusedArgument("4: law(1) of an empty tape", () -> x.law(1));
        Due.is("4: the law", 1, x.would(40, 8, 8, 400, 999, 999, 255, 4));
        Due.is("4: a fault", -9, Due.law(x, "2+"));
        Due.is("4: leaves the law", 1, x.would(0, 0, 0, 0, 0, 0, 0, 0));
        Due.is("4: and empties the tape", 0, x.count(1));
        says(x, 7, "1+2*3");
        says(x, 3, "9-4-2");
        says(x, 5, "9-(4-0)");
        says(x, 8, "17/4*2");
        says(x, 2, "17%5%3+0");
        says(x, 0, "5/0");
        says(x, 0, "5%0");
        says(x, 97, "100+(0-7)/2");
        says(x, 98, "99+(0-7)%2");
        says(x, 0, "0-1");
        says(x, 99, "100");
        says(x, 4, "least[9,4]");
        says(x, 9, "most[9,4]");
        says(x, 3, "most[least[3,8],least[most[1,2],7]]");
        says(x, 99, "999*999*999*5");
        says(x, 0, "999*999*999*3");
        says(x, 12, " 4 * ( 1 + 2 ) ");
        says(x, 1, "((((((1))))))");
        says(x, 2, "((((((1))))))+(((1)))");
        says(x, 1, "least[(((((1))))),2]");
        says(x, 99, "toll+apart+marks+age+gone+passed+number+gate");
        says(x, 8, "1+1+1+1+1+1+1+1");
        says(x, 7, "007");
        Due.is("4: facts", 1, Due.law(x, "toll+apart*2+marks*3-age-gone*2+passed*4-number/2+gate*7"));
        Due.is("4: of facts", 1 + 4 + 9 - 4 - 10 + 24 - 3 + 28, x.would(1, 2, 3, 4, 5, 6, 7, 4));
    }

    private static void says(StripeTrade x, int fee, String law) {
        Due.is("4: '" + law + "'", 1, Due.law(x, law));
        Due.is("4: fee by '" + law + "'", fee, x.would(40, 8, 8, 400, 999, 999, 255, 4));
    }

    private static void lawFault(int answer, int place, String text) {
        StripeTrade x = new StripeTrade();
        Due.is("4: '" + text + "'", answer, Due.law(x, text));
        Due.is("4: fault() of '" + text + "'", place, x.fault());
    }

    private static void lawFaults() {
        lawFault(-9, 0, "");
        lawFault(-9, 2, "  ");
        lawFault(-9, 0, "-1");
        lawFault(-9, 2, "1 2");
        lawFault(-9, 1, "1toll");
        lawFault(-9, 0, "tolls");
        lawFault(-9, 0, "tol");
        lawFault(-9, 2, "1+");
        lawFault(-9, 2, "1++1");
        lawFault(-9, 2, "(1");
        lawFault(-9, 1, "()");
        lawFault(-9, 1, "1)");
        lawFault(-9, 5, "least");
        lawFault(-9, 5, "least(1,2)");
        lawFault(-9, 7, "least[1]");
        lawFault(-9, 8, "least[1,]");
        lawFault(-9, 9, "least[1,2,3]");
        lawFault(-9, 6, "most[1(");
        lawFault(-9, 0, "[1]");
        lawFault(-9, 0, "beast");
        lawFault(-8, 2, "1+1000");
        lawFault(-8, 0, "99999999999999999999");
        lawFault(-7, 6, "(((((((1)))))))");
        lawFault(-7, 6, "(((((((");
        lawFault(-7, 8, "((( ((( most");
        lawFault(-7, 6, "((((((least[1,1]))))))");
        lawFault(-7, 36, "least[least[least[least[least[least[most[");
        lawFault(-9, 6, "((((((leas[1,1]))))))");
        lawFault(-9, 8, "((((((1 (");
    }

    private static void promise5() {
        StripeTrade x = new StripeTrade();
        Due.trade(x, "beast 5 3;beast 250 1;gate 0 10;list 0 5;purse 25;");
        Due.feed(x, "tar 0 1;" + " ".repeat(150));
        Due.refusedArgument("5: work(-1)", () -> x.work(-1));
        Due.refusedArgument("5: work(151)", () -> x.work(151));
        Due.is("5: the tape stays", 160, x.count(1));
        Due.is("5: tar", 1, x.work(150));
        Due.is("5: tarred", 7, x.beast(0, 0));
        Due.refusedArgument("5: work(1) of an empty tape", () -> x.work(1));
        done(x, 0, 1, "tar 0 1;");
        done(x, 1, 0, "rub 0 1;");
        done(x, 0, 1, "rub 0 1;");
        done(x, 0, 1, "wash 0;");
        done(x, 2, 0, "tar 0 7;wash 0;");
        done(x, 2, 1, "again 3 [pass 0 0;];");
        Due.is("5: coins", 5, x.told(3));
        Due.is("5: took", 20, x.gate(0, 4));
        done(x, 0, 1, "pass 1 0;");
        done(x, 1, 0, "foal 0 1;");
        Due.is("5: the foal's number is left by 256", 255, x.beast(2, 0));
        done(x, 0, 0, "again 0 [year;];again 30[];");
        done(x, 6, 0, "again 2 [ again 3 [ year ; ] ; ] ;");
        Due.is("5: the foal is 6", 6, x.beast(2, 2));
        done(x, 4, 0, "tar0 1;foal0 1;year;rub 2 0;");
        Due.is("5: born of numbers as they were born", 255, x.beast(3, 1));
        Due.is("5: rubbed", 254, x.beast(2, 0));
        done(x, 4, 2, "foal 0 1;foal 0 1;again 2[foal1 0;];foal 0 1;foal 0 1;");
        StripeTrade y = new StripeTrade();
        done(y, 180, 0, "again 6 [again 30 [year;];];");
        done(y, 120, 0, "again 4 [again 30 [year;];];");
        done(y, 0, 4, "again 4 [year;];");
        Due.is("5: no year beyond 300", 300, y.told(2));
    }

    private static void done(StripeTrade x, int done, int refused, String text) {
        Due.is("5: '" + text + "'", done, Due.work(x, text));
        Due.is("5: refused by '" + text + "'", refused, x.told(6));
    }

    private static void workFault(int answer, int place, String text) {
        StripeTrade x = new StripeTrade();
        Due.trade(x, "beast 5 3;beast 7 1;gate 0 10;");
        Due.is("5: '" + text + "'", answer, Due.work(x, text));
        Due.is("5: fault() of '" + text + "'", place, x.fault());
        Due.is("5: none is done of '" + text + "'", 0, x.told(2) + x.told(8) + x.count(2));
    }

    private static void workFaults() {
        workFault(-9, 5, "year;;");
        workFault(-9, 4, "year");
        workFault(-9, 6, "year  ");
        workFault(-9, 5, "year;]");
        workFault(-9, 5, "year;years;");
        workFault(-9, 5, "year 1;");
        workFault(-9, 4, "tar x 0;");
        workFault(-9, 5, "tar 0;");
        workFault(-9, 5, "tar 0");
        workFault(-9, 5, "tar 0,1;");
        workFault(-9, 3, "tar;");
        workFault(-9, 0, "TAR 0 1;");
        workFault(-9, 0, "0 1;");
        workFault(-9, 7, "again 3;year;");
        workFault(-9, 6, "again [];");
        workFault(-9, 10, "again 3 []");
        workFault(-9, 9, "again 3 [");
        workFault(-9, 13, "again 3 [year];");
        workFault(-9, 14, "again 3 [year;");
        workFault(-9, 9, "again 3 [);");
        workFault(-8, 4, "tar 2 9;");
        workFault(-8, 6, "tar 1 8;");
        workFault(-8, 4, "rub 2 0;");
        workFault(-8, 6, "rub 0 8;");
        workFault(-8, 5, "wash 2;");
        workFault(-8, 5, "pass 2 0;");
        workFault(-8, 7, "pass 1 1;");
        workFault(-8, 5, "foal 2 0;");
        workFault(-8, 7, "foal 1 1;");
        workFault(-8, 7, "foal 1 2;");
        workFault(-8, 6, "again 31 [];");
        workFault(-8, 13, "foal 0 1;tar 2 0;");
        workFault(-7, 54, "again 1 [".repeat(6) + "again");
        workFault(-9, 54, "again 1 [".repeat(6) + "agains");
        StripeTrade x = new StripeTrade();
        Due.is("5: no beasts", -8, Due.work(x, "wash 0;"));
        Due.trade(x, "beast 1 1;");
        Due.is("5: no gates", -8, Due.work(x, "pass 0 0;"));
        Due.is("5: six agains", 1, Due.work(x, "again 1 [".repeat(6) + "year;" + "];".repeat(6)));
        Due.is("5: many agains, not open at one time", 0, Due.work(x, "again0[];".repeat(16)));
    }

    private static void stepsBegun() {
        StripeTrade x = new StripeTrade();
        Due.trade(x, "beast 0 0;gate 0 0;list 0 0;");
        Due.is("5: 200 begun", 192, Due.work(x, "again 30 [again 30 [year;];];"));
        Due.is("5: the year then", 192, x.told(2));
        Due.is("5: undo", 0, x.undo());
        Due.is("5: refused ones are begun", 0, Due.work(x, "again 30 [again 30 [wash 0;];];year;"));
        Due.is("5: so many", 192, x.told(6));
        Due.is("5: what comes behind is left out", 0, x.told(2));
        Due.is("5: agains alone", 0, Due.work(x, "again 30 [again 30 [again 0 [];];];year;"));
        Due.is("5: the 200th is done", 192,
                Due.work(x, "again 6 [again 30 [year;];];again 11 [year;];year;wash 0;"));
        Due.is("5: the 201st is not begun", 0, x.told(6));
    }

    private static void promise6() {
        StripeTrade x = new StripeTrade();
        Due.law(x, "1+");
        Due.is("6: of a law", 2, x.fault());
        Due.refusedArgument("6: an exception", () -> x.law(3));
        Due.is("6: leaves it", 2, x.fault());
        x.undo();
        Due.is("6: undo leaves it", 2, x.fault());
        Due.trade(x, "gate");
        Due.is("6: of a trade", 4, x.fault());
        Due.work(x, "year;");
        Due.is("6: none", -1, x.fault());
        Due.work(x, "year;x");
        Due.is("6: of work", 5, x.fault());
        Due.law(x, "1");
        Due.is("6: none again", -1, x.fault());
    }

    private static void promise7() {
        StripeTrade x = new StripeTrade();
        Due.is("7: nothing to undo", -1, x.undo());
        Due.trade(x, "beast 5 3;beast 9 1;gate 3 10;list 0 5;");
        Due.work(x, "tar 0 1;pass 0 0;year;foal 0 1;");
        Due.work(x, "");
        Due.work(x, "tar 0 1;rub 0 0;wash 0;foal 0 1;");
        Due.is("7: refused", 1, x.told(6));
        Due.is("7: a refused work", 0, Due.work(x, "wash 0;"));
        Due.is("7: undone", 3, x.undo());
        Due.is("7: nothing refused", 0, x.told(6));
        Due.is("7: undo leaves the others", 4, x.told(0));
        Due.is("7: undone", 2, x.undo());
        Due.is("7: the foal is gone", 3, x.told(0));
        Due.is("7: tarred still", 7, x.beast(0, 0));
        Due.is("7: the empty work undone", 1, x.undo());
        Due.is("7: the first undone", 0, x.undo());
        int[] due = {2, 1, 0, 100, 0, 1, 0, 0, 0};
        for (int what = 0; what < due.length; what++) {
            Due.is("7: told(" + what + ")", due[what], x.told(what));
        }
        Due.is("7: passed", 0, x.beast(0, 3) + x.gate(0, 3) + x.gate(0, 4));
        Due.is("7: age", 3, x.beast(0, 2));
        Due.work(x, "wash 0;");
        Due.is("7: -1 of work leaves what was refused", -9, Due.work(x, "x"));
        Due.is("7: it stands", 1, x.told(6));
        for (int i = 1; i < 16; i++) {
            Due.is("7: work " + i, 1, Due.work(x, "year;"));
        }
        Due.work(x, "");
        Due.feed(x, "wash 0;;;");
        Due.refusedArgument("7: the exception goes ahead of -20", () -> x.work(21));
        Due.is("7: -20 ahead of the fault", -20, x.work(9));
        Due.is("7: no fault", -1, x.fault());
        Due.is("7: the tape is empty", 0, x.count(1));
        Due.is("7: works", 16, x.count(2));
        for (int i = 15; i >= 0; i--) {
            Due.is("7: the year then", i, x.told(2));
            Due.is("7: undo to " + i, i, x.undo());
        }
        Due.is("7: no more", -1, x.undo());
    }

    private static void promise38And39() {
        StripeTrade x = new StripeTrade();
        Due.is("39: no image", -1, x.restore());
        Due.trade(x, "beast 5 3;beast 9 1;gate 3 10;list 0 5;");
        Due.is("38: first image", 1, x.image());
        Due.work(x, "tar 0 1;pass 0 0;");
        Due.is("38: second image", 2, x.image());
        Due.work(x, "foal 0 1;year;wash 1;");
        Due.law(x, "3");
        Due.is("38: third image", 3, x.image());
        Due.is("38: no fourth", -1, x.image());
        x.undo();
        x.undo();
        Due.work(x, "wash 0;");
        Due.is("39: restore", 2, x.restore());
        Due.is("39: nothing refused", 0, x.told(6));
        Due.is("39: the foal is back", 3, x.told(0));
        Due.is("39: the year is back", 1, x.told(2));
        Due.is("39: the works are back", 2, x.count(2));
        Due.is("39: undo of them", 1, x.undo());
        Due.is("39: undone", 2, x.told(0));
        Due.is("39: tarred", 7, x.beast(0, 0));
        Due.is("39: undo of the first", 0, x.undo());
        Due.is("39: as born", 5, x.beast(0, 0));
        Due.work(x, "wash 0;");
        Due.is("39: restore", 1, x.restore());
        Due.is("39: paid 12", 88, x.told(3));
        Due.is("39: passed", 1, x.beast(0, 3));
        Due.is("39: the law is none of it", 3, x.fee(0, 0));
        Due.is("39: restore", 0, x.restore());
        Due.is("39: nothing to undo", 0, x.count(2));
        Due.is("39: all coins", 100, x.told(3));
        Due.work(x, "wash 0;");
        Due.is("39: no image", -1, x.restore());
        Due.is("39: leaves what was refused", 1, x.told(6));
    }

    private static void promise40() {
        StripeTrade x = new StripeTrade();
        x.image();
        Due.refusedElement("40: no beast", () -> x.beast(0, 9));
        Due.refusedArgument("40: no what", () -> x.told(-1));
        Due.refusedArgument("40: no what", () -> x.told(9));
        x.undo();
        x.work(0);
        Due.trade(x, "?");
        x.restore();
        Due.is("40: elements", 1, x.status(0));
        Due.is("40: arguments", 2, x.status(1));
        Due.trade(x, "purse 1;");
        Due.is("40: elements stay", 1, x.status(0));
        Due.is("40: others", -1, x.status(2));
        Due.is("40: others", -1, x.status(-1));
    }

    private static void promise41() {
        StripeTrade x = new StripeTrade();
        x.feed(0, 0, 0, 0, 0);
        x.image();
        x.image();
        Due.is("41: images", 2, x.count(0));
        Due.is("41: bytes", 20, x.count(1));
        x.work(0);
        Due.is("41: works", 1, x.count(2));
        Due.is("41: no bytes", 0, x.count(1));
        Due.is("41: others", -1, x.count(3));
        Due.is("41: others", -1, x.count(-1));
    }
}
