/** Promises 8 to 37: what can be asked of a trade. */
public final class AsksTest {
    /** Beasts 5, 7, 200, 6 and gates: 0 lets 5 and 6 through, 1 lets 7 and 200 through, 2 has no list. */
    private static final String HERD = "beast 5 3;beast 7 1;beast 200 9;beast 6 0;gate 1 10;gate 0 4;gate 2 0;"
            + "list 0 4;list 0 255;list 1 7;list 1 200;purse 60;";

    private AsksTest() {
    }

    private static StripeTrade of(String trade) {
        StripeTrade x = new StripeTrade();
        Due.trade(x, trade);
        return x;
    }

    public static void main(String[] args) {
        promises8To11();
        promises12To14();
        promise15();
        promises16And17();
        promises18To20();
        promises21And22();
        promises23And24();
        promises25And26();
        promise27();
        promise28();
        promise29();
        promises30To35();
        promises36And37();
        Due.end();
    }

    private static void promises8To11() {
        StripeTrade x = of(HERD);
        Due.work(x, "pass 0 0;pass 3 0;pass 1 1;year;tar 1 3;rub 2 7;tar 0 0;wash 0;");
        int[] told = {4, 3, 1, 60 - 12 - 12 - 4, 28, 4, 2, 3, 6};
        for (int what = 0; what < told.length; what++) {
            Due.is("8: told(" + what + ")", told[what], x.told(what));
        }
        Due.refusedArgument("8: told(-1)", () -> x.told(-1));
        Due.refusedArgument("8: told(9)", () -> x.told(9));
        int[] beast = {15, 7, 2, 1, 4, 0};
        for (int what = 0; what < beast.length; what++) {
            Due.is("9: beast(1, " + what + ")", beast[what], x.beast(1, what));
        }
        Due.is("9: a gate that opens", 1, x.beast(3, 5));
        Due.refusedElement("9: beast(4, 0)", () -> x.beast(4, 0));
        Due.refusedElement("9: beast(-1, 9)", () -> x.beast(-1, 9));
        Due.refusedArgument("9: beast(3, 6)", () -> x.beast(3, 6));
        Due.refusedArgument("9: beast(0, -1)", () -> x.beast(0, -1));
        int[] gate = {1, 10, 2, 2, 24, 9};
        for (int what = 0; what < gate.length; what++) {
            Due.is("10: gate(0, " + what + ")", gate[what], x.gate(0, what));
        }
        Due.is("10: gate 1 opens to none", 0, x.gate(1, 5));
        Due.refusedElement("10: gate(3, 0)", () -> x.gate(3, 0));
        Due.refusedElement("10: gate(-1, 6)", () -> x.gate(-1, 6));
        Due.refusedArgument("10: gate(2, 6)", () -> x.gate(2, 6));
        Due.refusedArgument("10: gate(0, -1)", () -> x.gate(0, -1));
        Due.is("11: listed(0, 0)", 4, x.listed(0, 0));
        Due.is("11: listed(1, 1)", 200, x.listed(1, 1));
        Due.is("11: listed(1, 2)", -1, x.listed(1, 2));
        Due.is("11: listed(0, most)", -1, x.listed(0, Integer.MAX_VALUE));
        Due.is("11: no list", -1, x.listed(2, 0));
        Due.refusedArgument("11: listed(0, -1)", () -> x.listed(0, -1));
        Due.refusedElement("11: listed(3, -1)", () -> x.listed(3, -1));
        StripeTrade y = of("gate 0 0;gate 0 0;list 1 9;list 0 3;list 1 9;list 1 2;list 0 1;");
        Due.is("11: as told", 9 * 1000 + 2 * 100 + 3 * 10 + 1,
                y.listed(1, 1) * 1000 + y.listed(1, 2) * 100 + y.listed(0, 0) * 10 + y.listed(0, 1));
    }

    private static void promises12To14() {
        StripeTrade x = of(HERD);
        Due.is("12: slips(0, 255)", 8, x.slips(0, 255));
        Due.is("12: slips(5, 5)", 0, x.slips(5, 5));
        Due.is("12: slips(200, 7)", 6, x.slips(200, 7));
        Due.refusedArgument("12: slips(-1, 0)", () -> x.slips(-1, 0));
        Due.refusedArgument("12: slips(0, 256)", () -> x.slips(0, 256));
        Due.is("13: near(1, 0)", 2, x.near(1, 0));
        Due.is("13: near(2, 0)", 4, x.near(2, 0));
        Due.is("13: near(2, 1)", 0, x.near(2, 1));
        Due.is("13: near(2, 2)", -1, x.near(2, 2));
        Due.refusedElement("13: near(4, 0)", () -> x.near(4, 0));
        Due.refusedElement("13: near(0, 3)", () -> x.near(0, 3));
        Due.is("14: fee(0, 0)", 12, x.fee(0, 0));
        Due.is("14: fee where it does not open", 18, x.fee(2, 0));
        Due.is("14: fee without a list", -1, x.fee(2, 2));
        Due.refusedElement("14: fee(-1, 0)", () -> x.fee(-1, 0));
        Due.refusedElement("14: fee(0, -1)", () -> x.fee(0, -1));
        Due.law(x, "marks*10+age+gone*20+passed*4");
        Due.work(x, "pass 0 0;tar 0 3;year;");
        Due.is("14: fee of facts as they are now", 3 * 10 + 4 + 20 + 4, x.fee(0, 0));
        Due.law(x, "number-gate");
        Due.is("14: of the number now", 13, x.fee(0, 0));
        Due.is("14: of the gate", 12, x.fee(0, 1));
        Due.is("14: 99 at most", 99, x.fee(2, 1));
    }

    private static void promise15() {
        StripeTrade x = of("");
        Due.is("15: the usual law", 40 + 16, x.would(40, 8, 8, 400, 999, 999, 255, 4));
        Due.refusedArgument("15: toll 41", () -> x.would(41, 8, 8, 400, 999, 999, 255, 4));
        Due.refusedArgument("15: apart 9", () -> x.would(40, 9, 8, 400, 999, 999, 255, 4));
        Due.refusedArgument("15: marks 9", () -> x.would(40, 8, 9, 400, 999, 999, 255, 4));
        Due.refusedArgument("15: age 401", () -> x.would(40, 8, 8, 401, 999, 999, 255, 4));
        Due.refusedArgument("15: gone 1000", () -> x.would(40, 8, 8, 400, 1000, 999, 255, 4));
        Due.refusedArgument("15: passed 1000", () -> x.would(40, 8, 8, 400, 999, 1000, 255, 4));
        Due.refusedArgument("15: number 256", () -> x.would(40, 8, 8, 400, 999, 999, 256, 4));
        Due.refusedArgument("15: gate 5", () -> x.would(40, 8, 8, 400, 999, 999, 255, 5));
        Due.refusedArgument("15: toll -1", () -> x.would(-1, 0, 0, 0, 0, 0, 0, 0));
        Due.refusedArgument("15: apart -1", () -> x.would(0, -1, 0, 0, 0, 0, 0, 0));
        Due.refusedArgument("15: marks -1", () -> x.would(0, 0, -1, 0, 0, 0, 0, 0));
        Due.refusedArgument("15: age -1", () -> x.would(0, 0, 0, -1, 0, 0, 0, 0));
        Due.refusedArgument("15: gone -1", () -> x.would(0, 0, 0, 0, -1, 0, 0, 0));
        Due.refusedArgument("15: passed -1", () -> x.would(0, 0, 0, 0, 0, -1, 0, 0));
        Due.refusedArgument("15: number -1", () -> x.would(0, 0, 0, 0, 0, 0, -1, 0));
        Due.refusedArgument("15: gate -1", () -> x.would(0, 0, 0, 0, 0, 0, 0, -1));
    }

    private static void promises16And17() {
        StripeTrade x = of(HERD);
        Due.is("16: can(0, 0)", 1, x.can(0, 0) ? 1 : 0);
        Due.is("16: can(1, 0)", 0, x.can(1, 0) ? 1 : 0);
        Due.is("16: can without a list", 0, x.can(0, 2) ? 1 : 0);
        Due.refusedElement("16: can(4, 0)", () -> x.can(4, 0) ? 1 : 0);
        Due.refusedElement("16: can(0, 3)", () -> x.can(0, 3) ? 1 : 0);
        Due.work(x, "again 4 [pass 0 0;];");
        Due.is("16: just enough coins", 1, x.can(3, 0) ? 1 : 0);
        Due.work(x, "pass 2 1;");
        Due.is("16: too few coins", 0, x.can(3, 0) ? 1 : 0);
        Due.is("17: open yet", 0, x.strokes(0, 0, 0));
        Due.is("17: open yet, no stripes", 0, x.strokes(0, 0, 1));
        Due.is("17: strokes(2, 0)", 3, x.strokes(2, 0, 0));
        Due.is("17: the lowest stripes", 4 + 8 + 64, x.strokes(2, 0, 1));
        Due.is("17: without a list", -1, x.strokes(2, 2, 0));
        Due.is("17: without a list, no stripes", -1, x.strokes(2, 2, 1));
        Due.refusedArgument("17: strokes(0, 0, 2)", () -> x.strokes(0, 0, 2));
        Due.refusedElement("17: strokes(4, 0, 2)", () -> x.strokes(4, 0, 2));
        Due.refusedElement("17: strokes(0, 3, 2)", () -> x.strokes(0, 3, 2));
        StripeTrade y = of("beast 0 0;gate 1 0;list 0 224;list 0 112;list 0 255;gate 3 0;list 1 7;list 1 255;");
        Due.is("17: of alike lists the least bits", 16 + 32, y.strokes(0, 0, 1));
        Due.is("17: of a gate that forgives more", 0, y.strokes(0, 1, 1));
    }

    private static void promises18To20() {
        StripeTrade x = of(HERD);
        Due.is("18: twins(1, 0)", 2, x.twins(1, 0));
        Due.is("18: twins(1, 1)", 1, x.twins(1, 1));
        Due.is("18: twins(0, 1)", -1, x.twins(0, 1));
        Due.is("18: twins(8, 0)", 6, x.twins(8, 0));
        Due.refusedArgument("18: twins(-1, 0)", () -> x.twins(-1, 0));
        Due.refusedArgument("18: twins(9, 0)", () -> x.twins(9, 0));
        Due.refusedArgument("18: twins(0, 2)", () -> x.twins(0, 2));
        Due.work(x, "rub 1 0;");
        Due.is("18: as they are now", 13, x.twins(0, 1));
        int[][] many = {{2, 1, 1, 1}, {4, 2, 1, 1}, {8, 4, 2, 1}, {16, 8, 2, 2}};
        int[][] sets = {{3, 1, 1, 1}, {15, 6, 1, 1}, {255, 105, 24, 1}, {65535, 27030, 24, 384}};
        for (int n = 1; n <= 4; n++) {
            for (int d = 1; d <= 4; d++) {
                Due.is("19: how many by " + n + ", " + d, many[n - 1][d - 1], x.code(n, d, 0));
                Due.is("19: set by " + n + ", " + d, sets[n - 1][d - 1], x.code(n, d, 1));
            }
        }
        Due.refusedArgument("19: code(0, 1, 0)", () -> x.code(0, 1, 0));
        Due.refusedArgument("19: code(5, 1, 0)", () -> x.code(5, 1, 0));
        Due.refusedArgument("19: code(1, 0, 0)", () -> x.code(1, 0, 0));
        Due.refusedArgument("19: code(1, 5, 0)", () -> x.code(1, 5, 0));
        Due.refusedArgument("19: code(1, 1, 2)", () -> x.code(1, 1, 2));
        Due.is("20: of numbers as they were born", 1, x.parents(12, 1));
        Due.is("20: left by 256", 1, of("beast 200 0;beast 57 0;beast 56 0;").parents(1, 0));
        Due.is("20: left by 256, 0", 2, of("beast 200 0;beast 57 0;beast 56 0;").parents(0, 1));
        Due.is("20: many", 3, of("beast 5 0;beast 5 0;beast 5 0;").parents(10, 0));
        Due.is("20: none", 0, x.parents(10, 0));
        Due.is("20: no first", -1, x.parents(10, 1));
        Due.refusedArgument("20: parents(-1, 0)", () -> x.parents(-1, 0));
        Due.refusedArgument("20: parents(256, 0)", () -> x.parents(256, 0));
        Due.refusedArgument("20: parents(0, 2)", () -> x.parents(0, 2));
    }

    private static void promises21And22() {
        StripeTrade x = of("beast 1 0;beast 2 0;beast 3 0;beast 4 0;");
        Due.is("21: 5 as 2 + 3, 1 + 4", 2, x.herd(5, 0));
        Due.is("21: the first", 6, x.herd(5, 1));
        Due.is("21: none is sure", 0, x.herd(5, 2));
        Due.is("21: 8 as 1 + 3 + 4", 13, x.herd(8, 1));
        Due.is("21: all of them sure", 13, x.herd(8, 2));
        Due.is("21: 7 as 1 + 2 + 4, 3 + 4", 8, x.herd(7, 2));
        Due.is("21: none", 0, x.herd(11, 0));
        Due.is("21: no first", -1, x.herd(11, 1));
        Due.is("21: none sure", 0, x.herd(11, 2));
        Due.is("21: the empty one", 1, x.herd(0, 0));
        Due.is("21: the most there can be", 255, of("beast 255 0;".repeat(8)).herd(2040, 1));
        Due.refusedArgument("21: herd(-1, 0)", () -> x.herd(-1, 0));
        Due.refusedArgument("21: herd(2041, 0)", () -> x.herd(2041, 0));
        Due.refusedArgument("21: herd(0, 3)", () -> x.herd(0, 3));
        Due.is("22: the first of alike ones", 0, x.ask(5, 0));
        Due.is("22: one is left", 1, x.ask(5, 1));
        Due.is("22: of 7 by beast 0", 0, x.ask(7, 0));
        StripeTrade y = of("beast 9 0;beast 2 0;beast 2 0;beast 2 0;");
        Due.is("22: beast 0 tells nothing", 1, y.ask(2, 0));
        Due.is("22: two are left", 2, y.ask(2, 1));
        Due.is("22: of no sets", 0, y.ask(1, 0));
        Due.is("22: none is left", 0, y.ask(1, 1));
        Due.is("22: no beasts", -1, of("").ask(0, 0));
        Due.is("22: no beasts, none left", -1, of("").ask(0, 1));
        Due.refusedArgument("22: ask(-1, 0)", () -> x.ask(-1, 0));
        Due.refusedArgument("22: ask(2041, 0)", () -> x.ask(2041, 0));
        Due.refusedArgument("22: ask(0, 2)", () -> x.ask(0, 2));
        Due.work(x, "rub 2 0;");
        Due.is("21: as they are now, 1 + 2 + 2, 1 + 4", 2, x.herd(5, 0));
        Due.is("21: as they are now, sure of the first", 1, x.herd(5, 2));
    }

    private static void promises23And24() {
        StripeTrade x = of(HERD);
        Due.is("23: cover(9)", 1, x.cover(9));
        Due.is("23: cover(6)", 2, x.cover(6));
        Due.is("23: cover(15)", 3, x.cover(15));
        Due.is("23: cover(0)", 0, x.cover(0));
        Due.refusedArgument("23: cover(16)", () -> x.cover(16));
        Due.refusedArgument("23: cover(-1)", () -> x.cover(-1));
        StripeTrade y = of("beast 0 0;beast 255 0;beast 15 0;gate 0 0;gate 0 0;gate 0 0;list 0 0;list 1 255;"
                + "list 2 255;list 2 0;");
        Due.is("23: one rather than two", 4, y.cover(3));
        Due.is("23: of alike ones the least", 1, y.cover(1));
        Due.is("23: none opens", -1, y.cover(4));
        Due.is("24: list(0, 3)", 0, x.list(0, 3));
        Due.is("24: list(9, 1)", 1, x.list(9, 1));
        Due.is("24: list(9, 0)", 2, x.list(9, 0));
        Due.is("24: list(15, 3)", 1, x.list(15, 3));
        Due.is("24: list(15, 2)", 2, x.list(15, 2));
        Due.is("24: list(7, 0)", 3, x.list(7, 0));
        Due.is("24: a twin is let through too", -1, of("beast 4 0;beast 4 0;").list(2, 0));
        Due.is("24: 7 neighbours, but none at 128", 1, of("beast 0 0;beast 1 0;beast 2 0;beast 4 0;beast 8 0;"
                + "beast 16 0;beast 32 0;beast 64 0;").list(1, 1));
        Due.is("24: one forgiven, by its other side", 1, of("beast 0 0;beast 1 0;").list(2, 3));
        Due.refusedArgument("24: list(16, 0)", () -> x.list(16, 0));
        Due.refusedArgument("24: list(-1, 0)", () -> x.list(-1, 0));
        Due.refusedArgument("24: list(1, 4)", () -> x.list(1, 4));
        Due.refusedArgument("24: list(1, -1)", () -> x.list(1, -1));
    }

    private static void promises25And26() {
        StripeTrade x = of(HERD);
        Due.is("25: alike by the usual law", 24, x.file(0, 9));
        Due.is("26: the first then", 0, x.filed(0, 9, 0));
        Due.is("26: the other one then", 3, x.filed(0, 9, 1));
        Due.is("26: no third", -1, x.filed(0, 9, 2));
        Due.is("26: not so many", -1, x.filed(0, 9, Integer.MAX_VALUE));
        Due.is("25: no list", -1, x.file(2, 9));
        Due.is("26: no list", -1, x.filed(2, 9, 0));
        Due.is("25: no list, no beasts", -1, x.file(2, 0));
        Due.is("25: no beasts", 0, x.file(1, 0));
        Due.is("26: no beasts", -1, x.filed(1, 0, 0));
        Due.law(x, "gone * marks");
        Due.is("25: most marks first", 3 + 4 + 6, x.file(0, 15));
        int[] order = {1, 2, 0, 3};
        for (int k = 0; k < 4; k++) {
            Due.is("26: filed(0, 15, " + k + ")", order[k], x.filed(0, 15, k));
        }
        Due.work(x, "again 3 [pass 0 0;];");
        Due.is("25: from those who are gone on", 3 * 3 + 2 * 4, x.file(0, 3));
        Due.law(x, "10-gone");
        Due.is("25: all alike, the least first", 0, x.filed(1, 15, 0));
        Due.is("25: 10 + 9 + 8 + 7", 34, x.file(1, 15));
        Due.refusedElement("25: file(3, 0)", () -> x.file(3, 16));
        Due.refusedArgument("25: file(0, 16)", () -> x.file(0, 16));
        Due.refusedArgument("25: file(0, -1)", () -> x.file(0, -1));
        Due.refusedElement("26: filed(3, 0, 0)", () -> x.filed(3, 16, -1));
        Due.refusedArgument("26: filed(0, 16, 0)", () -> x.filed(0, 16, 0));
        Due.refusedArgument("26: filed(0, 1, -1)", () -> x.filed(0, 1, -1));
        Due.refusedArgument("26: filed(2, 1, -1)", () -> x.filed(2, 1, -1));
        Due.is("25: coins are not asked", 40, of("beast 0 0;gate 0 40;list 0 0;purse 0;").file(0, 1));
        StripeTrade y = of("beast 255 0;".repeat(8) + "gate 0 0;list 0 0;");
        Due.law(y, "99-gone*0");
        Due.is("25: the most fees", 8 * 99, y.file(0, 255));
        Due.is("26: the last of 8", 7, y.filed(0, 255, 7));
    }

    private static void promise27() {
        StripeTrade x = of(HERD);
        Due.is("27: clear, open", 1, x.fog(1, 1, 0, 0));
        Due.is("27: clear, open, below", 1, x.fog(1, 1, 0, 1));
        Due.is("27: clear, closed", 0, x.fog(0, 1, 0, 0));
        Due.is("27: clear, closed, below", 1, x.fog(0, 1, 0, 1));
        Due.is("27: 2 of 256", 1, x.fog(1, 1, 8, 0));
        Due.is("27: 2 of 256, below", 128, x.fog(1, 1, 8, 1));
        Due.is("27: no list", 0, x.fog(0, 2, 8, 0));
        Due.is("27: no list, below", 1, x.fog(0, 2, 8, 1));
        StripeTrade y = of("beast 0 0;gate 0 0;list 0 0;gate 1 0;list 1 0;gate 0 0;list 2 255;");
        Due.is("27: 15 to the 8th", 2562890625L, y.fog(0, 0, 1, 0));
        Due.is("27: 16 to the 8th", 4294967296L, y.fog(0, 0, 1, 1));
        Due.is("27: one slip is forgiven", 2562890625L + 8 * 170859375L, y.fog(0, 1, 1, 0));
        Due.is("27: 3/4 to the 8th", 6561, y.fog(0, 0, 4, 0));
        Due.is("27: 4 to the 8th", 65536, y.fog(0, 0, 4, 1));
        Due.is("27: all is read wrongly", 1, y.fog(0, 2, 16, 0));
        Due.is("27: never as it is", 0, y.fog(0, 0, 16, 0));
        Due.refusedElement("27: fog(1, 0, 17, 0)", () -> y.fog(1, 0, 17, 0));
        Due.refusedElement("27: fog(0, 3, 17, 0)", () -> y.fog(0, 3, 17, 0));
        Due.refusedArgument("27: fog(0, 0, 17, 0)", () -> y.fog(0, 0, 17, 0));
        Due.refusedArgument("27: fog(0, 0, -1, 0)", () -> y.fog(0, 0, -1, 0));
        Due.refusedArgument("27: fog(0, 0, 0, 2)", () -> y.fog(0, 0, 0, 2));
        Due.refusedArgument("27: fog(0, 0, 0, -1)", () -> y.fog(0, 0, 0, -1));
    }

    private static void promise28() {
        StripeTrade x = of("beast 0 0;beast 1 0;beast 255 0;beast 0 0;beast 3 0;");
        // 8 slips: the one never comes within 1; the other one puts back what the one changed.
        Due.is("28: far apart", 9, x.dealers(0, 2, 0));
        Due.is("28: far apart: both stripe 0", 0, x.dealers(0, 2, 1));
        Due.is("28: far apart: together", 8, x.dealers(0, 2, 2));
        // 2 slips: the other one changes one of 6 new stripes, the one 0, 1, none (2 or 3 slips) or a new one (4).
        Due.is("28: 2 slips", 3 * 6 + 6 * 5, x.dealers(0, 4, 0));
        Due.is("28: 2 slips: 0 by 2", 2, x.dealers(0, 4, 1));
        Due.is("28: 2 slips: together", 2, x.dealers(0, 4, 2));
        // Alike: the one stays, so that no stripe of the other one makes 2 slips.
        Due.is("28: alike: how many", 9, x.dealers(0, 3, 0));
        Due.is("28: alike: none, and any", 80, x.dealers(0, 3, 1));
        Due.is("28: alike: together", 3, x.dealers(0, 3, 2));
        Due.is("28: 1 slip: the first rest", 0, x.dealers(0, 1, 1));
        Due.is("28: 1 slip: how many", 9, x.dealers(0, 1, 0));
        Due.refusedElement("28: dealers(5, 0, 3)", () -> x.dealers(5, 0, 3));
        Due.refusedElement("28: dealers(0, 5, 3)", () -> x.dealers(0, 5, 3));
        Due.refusedElement("28: dealers(-1, -1, 0)", () -> x.dealers(-1, -1, 0));
        Due.refusedArgument("28: dealers(1, 1, 0)", () -> x.dealers(1, 1, 0));
        Due.refusedArgument("28: dealers(0, 1, 3)", () -> x.dealers(0, 1, 3));
        Due.refusedArgument("28: dealers(0, 1, -1)", () -> x.dealers(0, 1, -1));
    }

    private static void promise29() {
        StripeTrade x = of("beast 0 0;gate 0 5;gate 0 10;gate 0 20;gate 0 0;list 0 0;list 1 0;list 2 0;");
        Due.work(x, "pass 0 0;pass 0 1;pass 0 2;");
        Due.is("29: all, if they are no more", 20, x.share(2, 7, 35));
        Due.is("29: all of many", 20, x.share(2, 7, 999));
        Due.is("29: bound 19", 19, x.share(2, 7, 34));
        Due.is("29: bound 8", 8, x.share(1, 7, 22));
        Due.is("29: no more than it took", 5, x.share(0, 7, 22));
        Due.is("29: 21 by a bound of 8 too", 8, x.share(2, 7, 21));
        Due.is("29: 20 by a bound of 7", 7, x.share(2, 7, 20));
        Due.is("29: 2 for three", 0, x.share(0, 7, 2));
        Due.is("29: just two told", 10, x.share(1, 3, 15));
        Due.is("29: not told", 0, x.share(2, 3, 999));
        Due.is("29: took nothing", 0, x.share(3, 15, 999));
        Due.is("29: none told", 0, x.share(0, 0, 10));
        Due.is("29: nothing to share", 0, x.share(0, 1, 0));
        Due.refusedElement("29: share(4, 99, -1)", () -> x.share(4, 99, -1));
        Due.refusedArgument("29: share(0, 16, 0)", () -> x.share(0, 16, 0));
        Due.refusedArgument("29: share(0, -1, 0)", () -> x.share(0, -1, 0));
        Due.refusedArgument("29: share(0, 1, 1000)", () -> x.share(0, 1, 1000));
        Due.refusedArgument("29: share(0, 1, -1)", () -> x.share(0, 1, -1));
    }

    private static void promises30To35() {
        StripeTrade x = of(HERD);
        Due.is("30: taken(1, 0)", 4, x.taken(1, 0));
        Due.is("30: taken(2, 0)", 4, x.taken(2, 0));
        Due.is("30: none", -1, x.taken(2, 2));
        Due.is("30: the first of alike ones", 6, of("beast 7 0;gate 0 0;list 0 0;list 0 6;list 0 5;").taken(0, 0));
        Due.refusedElement("30: taken(4, 0)", () -> x.taken(4, 0));
        Due.refusedElement("30: taken(0, 3)", () -> x.taken(0, 3));
        StripeTrade y = of("beast 0 5;beast 255 9;beast 1 9;gate 1 9;gate 0 9;gate 0 9;list 0 1;list 1 0;list 2 0;purse 20;");
        Due.is("31: of alike ones the first", 1, y.cheapest(0, 0));
        Due.is("31: its fee", 9, y.cheapest(0, 1));
        Due.is("31: none opens", -1, y.cheapest(1, 0));
        Due.is("31: none opens, no fee", -1, y.cheapest(1, 1));
        Due.refusedElement("31: cheapest(3, 2)", () -> y.cheapest(3, 2));
        Due.refusedArgument("31: cheapest(0, 2)", () -> y.cheapest(0, 2));
        Due.is("32: striped(0)", 6, y.striped(0));
        Due.is("32: striped(7)", 2, y.striped(7));
        Due.refusedArgument("32: striped(8)", () -> y.striped(8));
        Due.refusedArgument("32: striped(-1)", () -> y.striped(-1));
        Due.is("33: of alike ones the first", 1, y.oldest(0));
        Due.is("33: its age", 9, y.oldest(1));
        Due.is("33: none", -1, of("").oldest(0) & of("").oldest(1));
        Due.is("33: a newborn", 0, of("beast 1 0;").oldest(0) + of("beast 1 0;").oldest(1));
        Due.refusedArgument("33: oldest(2)", () -> y.oldest(2));
        Due.is("34: none took anything", -1, y.richest(0) & y.richest(1));
        Due.is("35: 20 coins by 9", 2, y.affords(0, 1));
        Due.is("35: it does not open", 0, y.affords(1, 1));
        Due.refusedElement("35: affords(3, 0)", () -> y.affords(3, 0));
        Due.refusedElement("35: affords(0, 3)", () -> y.affords(0, 3));
        Due.work(y, "pass 0 2;pass 0 1;");
        Due.is("34: of alike ones the first", 1, y.richest(0));
        Due.is("34: how much", 9, y.richest(1));
        Due.refusedArgument("34: richest(2)", () -> y.richest(2));
        Due.is("35: nothing stays changed", 2, y.told(3));
        Due.law(y, "0");
        Due.is("35: 200 at most", 200, y.affords(0, 1));
        Due.law(y, "gone-1");
        Due.is("35: 0 + 1", 2, y.affords(0, 1));
        Due.law(y, "passed-2");
        Due.is("35: as often as it passed", 2, y.affords(0, 1));
        Due.is("31: coins are not asked", 99, of("beast 0 0;gate 0 40;list 0 0;purse 0;").cheapest(0, 1) + 59);
        StripeTrade z = of("beast 0 0;gate 0 0;list 0 0;");
        Due.work(z, "pass 0 0;");
        Due.is("34: a passing that cost nothing", -1, z.richest(0));
    }

    private static void promises36And37() {
        // One beast, one gate; toll 1 + age, so that what is paid tells the years.
        StripeTrade x = of("beast 0 0;gate 3 1;list 0 0;purse 999;");
        Due.law(x, "toll+age");
        Due.is("36: passings", 10, x.years(7, 10, 0, 0, 0));
        Due.is("36: coins", 999 - 4 - 8 - 6, x.years(7, 10, 0, 0, 1));
        Due.is("36: nothing stays changed", 999, x.told(3));
        Due.is("36: 96 days", 96, of("beast 0 0;gate 3 1;list 0 0;purse 999;").years(1, 96, 0, 0, 0));
        // By seed 0: draws 0 (of 12345), then as the chain goes; each day tars at M 0, Q 16.
        int[] draws = draws(0, 5 * 3);
        int bits = 0;
        int tars = 0;
        for (int day = 0; day < 3; day++) {
            int stripe = draws[5 * day + 3] % 8;
            tars += (bits >> stripe & 1) == 0 ? 1 : 0;
            bits |= 1 << stripe;
        }
        Due.is("36: tars by seed 0", tars, x.years(0, 3, 16, 0, 3));
        Due.is("36: washed on each day", 0, x.years(0, 3, 16, 16, 2));
        Due.is("36: tarred", 1, x.years(0, 3, 16, 0, 2));
        Due.is("36: each day tars again", 3, x.years(0, 3, 16, 16, 3));
        StripeTrade none = of("beast 0 0;purse 7;");
        Due.is("36: no gates", 0, none.years(0, 9, 16, 0, 3) + none.years(0, 9, 16, 0, 0));
        Due.is("36: coins then", 7, none.years(0, 9, 16, 0, 1));
        Due.work(none, "tar 0 0;");
        Due.is("36: it is tarred yet", 1, none.years(0, 9, 16, 16, 2));
        StripeTrade old = of("beast 0 40;gate 0 0;list 0 0;purse 999;");
        Due.law(old, "least[age/341,1]");
        Due.work(old, "again 6 [again 30 [year;];];");
        Due.work(old, "again 4 [again 30 [year;];];");
        Due.is("36: beyond year 300, too", 999 - 4, old.years(3, 8, 0, 0, 1));
        Due.refusedArgument("36: 0 days", () -> x.years(0, 0, 0, 0, 0));
        Due.refusedArgument("36: 97 days", () -> x.years(0, 97, 0, 0, 0));
        Due.refusedArgument("36: Q -1", () -> x.years(0, 1, -1, 0, 0));
        Due.refusedArgument("36: Q 17", () -> x.years(0, 1, 17, 0, 0));
        Due.refusedArgument("36: M -1", () -> x.years(0, 1, 0, -1, 0));
        Due.refusedArgument("36: M 17", () -> x.years(0, 1, 0, 17, 0));
        Due.refusedArgument("36: what -1", () -> x.years(0, 1, 0, 0, -1));
        Due.refusedArgument("36: what 4", () -> x.years(0, 1, 0, 0, 4));
        spans();
    }

    private static int[] draws(int seed, int many) {
        int[] draws = new int[many];
        long s = seed;
        for (int i = 0; i < many; i++) {
            s = (s * 1103515245L + 12345L) & 0xffffffffL;
            draws[i] = (int) (s / 65536 % 32768);
        }
        return draws;
    }

    private static void spans() {
        StripeTrade x = of(HERD);
        int fewest = 1000;
        int most = 0;
        int asBorn = 0;
        for (int i = 0; i < 20; i++) {
            int passings = x.years(Integer.MAX_VALUE - 9 + i, 12, 2, 1, 0);
            fewest = Math.min(fewest, passings);
            most = Math.max(most, passings);
            asBorn += 1 - (x.years(Integer.MAX_VALUE - 9 + i, 12, 2, 1, 2) >> 2 & 1);
        }
        int from = Integer.MAX_VALUE - 9;
        Due.is("37: the fewest", fewest, x.span(from, 20, 12, 2, 1, 0, 2));
        Due.is("37: the most", most, x.span(from, 20, 12, 2, 1, 1, 0));
        Due.is("37: as born", asBorn, x.span(from, 20, 12, 2, 1, 2, 2));
        Due.is("37: the seeds tell something", 1, fewest < most && asBorn > 0 && asBorn < 20 ? 1 : 0);
        Due.is("37: one seed", x.years(5, 12, 2, 1, 0), x.span(5, 1, 12, 2, 1, 0, 0));
        StripeTrade none = of("beast 3 3;");
        Due.is("37: no gates", 20, none.span(0, 20, 12, 16, 0, 2, 0) + none.span(0, 20, 12, 16, 0, 1, 0));
        Due.refusedArgument("37: 0 seeds", () -> x.span(0, 0, 1, 0, 0, 0, 0));
        Due.refusedArgument("37: 21 seeds", () -> x.span(0, 21, 1, 0, 0, 0, 0));
        Due.refusedArgument("37: 0 days", () -> x.span(0, 1, 0, 0, 0, 0, 0));
        Due.refusedArgument("37: 97 days", () -> x.span(0, 1, 97, 0, 0, 0, 0));
        Due.refusedArgument("37: Q 17", () -> x.span(0, 1, 1, 17, 0, 0, 0));
        Due.refusedArgument("37: M 17", () -> x.span(0, 1, 1, 0, 17, 0, 0));
        Due.refusedArgument("37: what 3", () -> x.span(0, 1, 1, 0, 0, 3, 0));
        Due.refusedArgument("37: what -1", () -> x.span(0, 1, 1, 0, 0, -1, 0));
        Due.refusedArgument("37: no such beast, for 0", () -> x.span(0, 1, 1, 0, 0, 0, 4));
        Due.refusedArgument("37: no such beast, for 1", () -> x.span(0, 1, 1, 0, 0, 1, -1));
        Due.refusedArgument("37: no such beast, for 2", () -> x.span(0, 1, 1, 0, 0, 2, 4));
    }
}
