/** A test for each sentence that names a boundary of what is asked of gates, dealers and years: promises 25 to 37. */
public final class SearchEdgesTest {
    private SearchEdgesTest() {
    }

    public static void main(String[] args) {
        file();
        filed();
        alikeFiles();
        fog();
        leastTerms();
        dealers();
        rests();
        share();
        taken();
        cheapest();
        striped();
        oldest();
        richest();
        affords();
        days();
        draws();
        below();
        behindEachFourth();
        nothingIsDone();
        whatYearsTell();
        spans();
        seedsWrap();
        Due.end();
    }

    private static void file() {
        Due.sentence("25", "FILE: the FEES together.");
        StripeTrade x = Due.of("beast 0 0;beast 3 0;beast 7 0;gate 0 9;gate 0 9;list 0 0;purse 0;");
        Due.is("nobody", 0, x.file(0, 0));
        Due.is("not open, no coins", 9 + 13 + 15, x.file(0, 7));
        Due.is("one", 13, x.file(0, 2));
        Due.is("the last alone", 15, x.file(0, 4));
        Due.is("the first and the last", 9 + 15, x.file(0, 5));
        Due.sentence("3", "NONE: it has no list");
        Due.is("no list", -1, x.file(1, 7));
        Due.is("no list, nobody", -1, x.file(1, 0));
        Due.sentence("3", "it is one more gone then");
        Due.law(x, "gone*marks");
        Due.is("3 by 0, 2 by 1, 0 by 2", 2, x.file(0, 7));
        Due.is("two of them: 2 by 0, 0 by 1", 0, x.file(0, 3));
        StripeTrade y = Due.of("beast 0 0;beast 3 0;beast 7 0;gate 3 0;list 0 0;");
        Due.work(y, "pass 0 0;pass 0 0;");
        Due.law(y, "gone*marks");
        Due.is("3 by 2, 2 by 3, 0 by 4", 12, y.file(0, 7));
        Due.law(y, "passed*9+gone");
        Due.is("each passes once: 18 and 2 + 3 + 4", 27, y.file(0, 7));
        StripeTrade z = Due.of("beast 0 0;".repeat(8) + "gate 0 0;list 0 0;");
        Due.law(z, "999");
        Due.is("eight by 99", 792, z.file(0, 255));
        Due.law(z, "gone*20");
        Due.is("99 at most each: 0, 20, 40, 60, 80, 99, 99, 99", 497, z.file(0, 255));
    }

    private static void filed() {
        Due.sentence("26", "The k-th BEAST (from 0 on) of the FILE; NONE: there are not so many, or no FILE.");
        StripeTrade x = Due.of("beast 1 0;beast 15 0;beast 3 0;beast 7 0;gate 0 9;gate 0 9;list 0 0;");
        Due.law(x, "gone*marks");
        int[] due = {1, 3, 2, 0, -1, -1};
        for (int k = 0; k < due.length; k++) {
            Due.is("filed(0, 15, " + k + ")", due[k], x.filed(0, 15, k));
        }
        Due.is("two of them, the last", 0, x.filed(0, 5, 1));
        Due.is("two of them, no third", -1, x.filed(0, 5, 2));
        Due.is("nobody", -1, x.filed(0, 0, 0));
        Due.is("far beyond", -1, x.filed(0, 15, Integer.MAX_VALUE));
        Due.is("no list", -1, x.filed(1, 15, 0));
        Due.is("no list, nobody", -1, x.filed(1, 0, 9));
        StripeTrade y = Due.of("beast 0 0;".repeat(8) + "gate 0 9;list 0 0;");
        Due.is("the last of eight", 7, y.filed(0, 255, 7));
        Due.is("no ninth", -1, y.filed(0, 255, 8));
    }

    private static void alikeFiles() {
        Due.sentence("3", "of alike orders the first (who goes first, then who next, .., the least)");
        StripeTrade x = Due.of("beast 3 0;beast 5 0;beast 0 0;beast 6 0;gate 0 9;list 0 0;");
        Due.law(x, "gone*marks");
        int[] due = {0, 1, 3, 2};
        for (int k = 0; k < due.length; k++) {
            Due.is("alike but 2, which goes last: " + k, due[k], x.filed(0, 15, k));
        }
        Due.law(x, "7");
        for (int k = 0; k < 3; k++) {
            Due.is("all alike, 1, 2, 3: " + k, k + 1, x.filed(0, 14, k));
        }
        Due.law(x, "40-gone*number");
        Due.is("who pays less later goes later", 2, x.filed(0, 15, 0));
        Due.is("6 goes last", 3, x.filed(0, 15, 3));
    }

    private static void fog() {
        Due.sentence("27", "FOG by q (0 to 16): above (part 0), below (part 1), in least terms.");
        StripeTrade x = Due.of("beast 0 0;gate 0 0;gate 0 0;gate 3 0;gate 0 0;list 0 0;list 1 255;list 2 0;list 2 255;");
        Due.is("clear: open", 1, x.fog(0, 0, 0, 0));
        Due.is("clear: open, of 1", 1, x.fog(0, 0, 0, 1));
        Due.is("clear: closed", 0, x.fog(0, 1, 0, 0));
        Due.is("clear: closed, of 1", 1, x.fog(0, 1, 0, 1));
        Due.is("16: all is read wrongly, closed", 0, x.fog(0, 0, 16, 0));
        Due.is("16: closed, of 1", 1, x.fog(0, 0, 16, 1));
        Due.is("16: all is read wrongly, open", 1, x.fog(0, 1, 16, 0));
        Due.is("16: open, of 1", 1, x.fog(0, 1, 16, 1));
        Due.is("no list", 0, x.fog(0, 3, 5, 0));
        Due.is("no list, of 1", 1, x.fog(0, 3, 5, 1));
        Due.sentence("3", "each STRIPE is read wrongly by q of 16, each by itself: how likely the GATE OPENS");
        Due.is("1: 15 to the 8th", 2562890625L, x.fog(0, 0, 1, 0));
        Due.is("1: of 16 to the 8th", 4294967296L, x.fog(0, 0, 1, 1));
        Due.is("15: all wrong, 15 to the 8th", 2562890625L, x.fog(0, 1, 15, 0));
        Due.is("1: all wrong, 1", 1, x.fog(0, 1, 1, 0));
        Due.is("1: all wrong, of 16 to the 8th", 4294967296L, x.fog(0, 1, 1, 1));
        Due.is("8: all but those of 4 slips, 256 - 70 of 256", 93, x.fog(0, 2, 8, 0));
        Due.is("8: of 128", 128, x.fog(0, 2, 8, 1));
        StripeTrade y = Due.of("beast 0 0;gate 1 0;list 0 0;list 0 1;");
        Due.is("8: 0, 1, and 7 near each, 16 of 256", 1, y.fog(0, 0, 8, 0));
        Due.is("8: of 16", 16, y.fog(0, 0, 8, 1));
        Due.work(y, "tar 0 7;tar 0 6;");
        long sum = fogOf(192, 4, new int[] {0, 1}, 1);
        Due.is("4: as it is now", sum / gcd(sum, 4294967296L), y.fog(0, 0, 4, 0));
        Due.is("4: below", 4294967296L / gcd(sum, 4294967296L), y.fog(0, 0, 4, 1));
    }

    /** Of 16 to the power of 8 what is read so that the gate opens, reading by reading. */
    private static long fogOf(int number, int q, int[] list, int forgives) {
        long sum = 0;
        for (int read = 0; read < 256; read++) {
            boolean open = false;
            for (int n : list) {
                open |= Integer.bitCount(read ^ n) <= forgives;
            }
            long weight = 1;
            for (int s = 0; s < 8; s++) {
                weight *= (read >> s & 1) == (number >> s & 1) ? 16 - q : q;
            }
            sum += open ? weight : 0;
        }
        return sum;
    }

    private static void leastTerms() {
        Due.sentence("27", "in least terms");
        StripeTrade x = Due.of("beast 0 0;gate 0 0;gate 3 0;list 0 0;list 1 0;list 1 255;list 1 15;list 1 240;");
        long[] above = {2562890625L, 5764801, 815730721, 6561, 214358881, 390625, 43046721, 1};
        long[] below = {4294967296L, 16777216, 4294967296L, 65536, 4294967296L, 16777216, 4294967296L, 256};
        for (int q = 1; q <= 8; q++) {
            Due.is("all right, by " + q, above[q - 1], x.fog(0, 0, q, 0));
            Due.is("all right, by " + q + ": below", below[q - 1], x.fog(0, 0, q, 1));
        }
        for (int q = 0; q <= 16; q++) {
            long sum = fogOf(0, q, new int[] {0, 255, 15, 240}, 3);
            long common = gcd(sum, 4294967296L);
            Due.is("above by " + q, sum / common, x.fog(0, 1, q, 0));
            Due.is("below by " + q, 4294967296L / common, x.fog(0, 1, q, 1));
        }
    }

    private static long gcd(long a, long b) {
        return b == 0 ? a : gcd(b, a % b);
    }

    private static void dealers() {
        Due.sentence("3", "the one changes STRIPE i of a, the other one STRIPE j of b (0 to 7, 0 to 1 or 1 to 0; 8: none): "
                + "if their NUMBERS are 1 SLIP apart then, or none, the one has 3, the other one 0; else the one has 0, the "
                + "other one as many as their SLIPS");
        StripeTrade x = Due.of("beast 0 0;beast 0 0;beast 1 0;beast 3 0;beast 7 0;beast 15 0;beast 255 0;beast 127 0;");
        // The first rest and what both have by it, by how many slips there are; found by hand, and by all 81 choices.
        for (int b = 1; b <= 7; b++) {
            int apart = Integer.bitCount(x.beast(b, 0));
            int[] due = restsOf(x.beast(b, 0));
            for (int what = 0; what <= 2; what++) {
                Due.is(apart + " slips: dealers(0, " + b + ", " + what + ")", due[what], x.dealers(0, b, what));
                Due.is(apart + " slips: dealers(" + b + ", 0, " + what + ")", due[what], x.dealers(b, 0, what));
            }
        }
        Due.is("8 slips: both change alike", 0, x.dealers(0, 6, 1));
        Due.is("8 slips: together", 8, x.dealers(0, 6, 2));
        Due.is("8 slips: how many", 9, x.dealers(0, 6, 0));
    }

    /** How many rests, the first, what both have by it, if the one has a number and the other one 0. */
    private static int[] restsOf(int number) {
        int[] due = {0, -1, 0};
        for (int i = 8; i >= 0; i--) {
            for (int j = 8; j >= 0; j--) {
                boolean rests = true;
                for (int s = 0; s <= 8; s++) {
                    rests &= has(number, s, j, true) <= has(number, i, j, true);
                    rests &= has(number, i, s, false) <= has(number, i, j, false);
                }
                if (rests) {
                    due = new int[] {due[0] + 1, 10 * i + j, has(number, i, j, true) + has(number, i, j, false)};
                }
            }
        }
        return due;
    }

    private static int has(int number, int i, int j, boolean one) {
        // Stripe 8 is beyond the eight: it is cut away.
        int slips = Integer.bitCount((number ^ 1 << i ^ 1 << j) & 255);
        if (slips < 2) {
            return one ? 3 : 0;
        }
        return one ? 0 : slips;
    }

    private static void rests() {
        Due.sentence("28", "DEALERS by a, b: 0 how many RESTS, 1 the first (10 times the one's STRIPE, and the other one's; "
                + "NONE), 2 what both have by it together (0 without). IllegalArgumentException: also one BEAST.");
        StripeTrade x = Due.of("beast 5 0;beast 7 0;beast 5 0;");
        Due.is("1 slip: the one takes it back", 10, x.dealers(0, 1, 1));
        Due.is("1 slip: together", 3, x.dealers(0, 1, 2));
        Due.is("alike: the one changes none", 80, x.dealers(0, 2, 1));
        Due.is("alike: by any stripe of the other one", 9, x.dealers(0, 2, 0));
        Due.refusedArgument("one beast", () -> x.dealers(0, 0, 0));
        Due.refusedArgument("one beast", () -> x.dealers(2, 2, 2));
        Due.refusedElement("one beast that is not there", () -> x.dealers(3, 3, 0));
        Due.work(x, "tar 2 1;tar 2 3;tar 2 4;tar 2 5;");
        int[] due = restsOf(2 + 8 + 16 + 32);
        for (int what = 0; what <= 2; what++) {
            Due.is("as they are now: " + what, due[what], x.dealers(0, 2, what));
            Due.is("as they are now, the other way round: " + what, due[what], x.dealers(2, 0, what));
        }
    }

    private static void share() {
        Due.sentence("3", "levelled: no more than that each, no more than a bound, the greatest by which no more than n are "
                + "given (all, if they are no more)");
        StripeTrade x = Due.of("beast 0 0;gate 0 5;gate 0 10;gate 0 20;gate 0 0;list 0 0;list 1 0;list 2 0;purse 999;");
        Due.is("nothing was taken", 0, x.share(0, 15, 999));
        Due.work(x, "pass 0 0;pass 0 1;pass 0 2;");
        int[][] due = {{0, 0, 0, 0}, {2, 0, 0, 0}, {3, 1, 1, 1}, {14, 4, 4, 4}, {15, 5, 5, 5}, {16, 5, 5, 5}, {17, 5, 6, 6},
            {24, 5, 9, 9}, {25, 5, 10, 10}, {26, 5, 10, 11}, {34, 5, 10, 19}, {35, 5, 10, 20}, {36, 5, 10, 20},
            {999, 5, 10, 20}};
        for (int[] row : due) {
            for (int g = 0; g < 3; g++) {
                Due.is("gate " + g + " of " + row[0], row[g + 1], x.share(g, 7, row[0]));
                Due.is("gate " + g + " of " + row[0] + ", with one that took nothing", row[g + 1], x.share(g, 15, row[0]));
            }
        }
        Due.sentence("29", "What a GATE gets of n (0 to 999) by SHARES among told GATES (0, if it is none of them).");
        Due.is("none told", 0, x.share(0, 0, 999));
        Due.is("not told", 0, x.share(2, 3, 999));
        Due.is("told alone", 20, x.share(2, 4, 999));
        Due.is("told alone, 19", 19, x.share(2, 4, 19));
        Due.is("told with gate 1", 7, x.share(2, 6, 14));
        Due.is("told, took nothing", 0, x.share(3, 8, 999));
        StripeTrade y = Due.of("beast 0 0;gate 0 0;list 0 0;purse 999;");
        Due.law(y, "99");
        Due.work(y, "again 10[pass 0 0;];");
        Due.law(y, "9");
        Due.work(y, "pass 0 0;");
        Due.is("999 of 999", 999, y.share(0, 1, 999));
        Due.is("998 of 999", 998, y.share(0, 1, 998));
    }

    private static void taken() {
        Due.sentence("30", "The NUMBER of a GATE's list that is nearest to a BEAST's now, of alike ones the first in the "
                + "list; NONE: it has none.");
        StripeTrade x = Due.of("beast 7 0;gate 0 0;gate 0 0;list 0 255;list 0 6;list 0 3;list 0 5;list 0 6;");
        Due.is("of 6, 3, 5 the first", 6, x.taken(0, 0));
        Due.is("no list", -1, x.taken(0, 1));
        Due.work(x, "rub 0 0;rub 0 1;tar 0 0;");
        Due.is("as it is now", 5, x.taken(0, 0));
        Due.is("far from it", 255, Due.of("beast 0 0;gate 0 0;list 0 255;").taken(0, 0));
        Due.is("0", 0, Due.of("beast 255 0;gate 0 0;list 0 0;").taken(0, 0));
    }

    private static void cheapest() {
        Due.sentence("31", "The GATE that OPENS to a BEAST by the least FEE (what 0), of alike ones the first, that FEE (1); "
                + "NONE both: none OPENS.");
        StripeTrade x = Due.of("beast 0 0;beast 255 0;gate 0 9;gate 0 8;gate 0 7;gate 0 7;gate 0 0;list 0 0;list 1 0;"
                + "list 2 0;list 3 0;list 4 1;purse 0;");
        Due.is("of 7 and 7 the first, coins or not", 2, x.cheapest(0, 0));
        Due.is("its fee", 7, x.cheapest(0, 1));
        Due.is("none opens", -1, x.cheapest(1, 0));
        Due.is("none opens: no fee", -1, x.cheapest(1, 1));
        Due.law(x, "20-toll");
        Due.is("by another law", 0, x.cheapest(0, 0));
        Due.is("its fee", 11, x.cheapest(0, 1));
        Due.law(x, "0");
        Due.is("all by 0", 0, x.cheapest(0, 0));
        Due.is("a fee of 0", 0, x.cheapest(0, 1));
        Due.work(x, "tar 0 0;");
        Due.is("as it is now", 4, x.cheapest(0, 0));
        Due.law(x, "999");
        Due.is("99 at most", 99, x.cheapest(0, 1));
        Due.is("no gates", -1, Due.of("beast 0 0;").cheapest(0, 0));
        Due.is("no lists", -1, Due.of("beast 0 0;gate 3 0;").cheapest(0, 1));
    }

    private static void striped() {
        Due.sentence("32", "BEASTS (bits) whose STRIPE s (0 to 7) is 1 now.");
        StripeTrade x = Due.of("beast 0 0;beast 255 0;beast 128 0;beast 1 0;beast 127 0;beast 254 0;beast 0 0;beast 255 0;");
        Due.is("0", 2 + 8 + 16 + 128, x.striped(0));
        Due.is("7", 2 + 4 + 32 + 128, x.striped(7));
        Due.is("3", 2 + 16 + 32 + 128, x.striped(3));
        Due.work(x, "tar 6 7;rub 1 7;");
        Due.is("7 now", 4 + 32 + 64 + 128, x.striped(7));
        Due.is("no beasts", 0, new StripeTrade().striped(0));
    }

    private static void oldest() {
        Due.sentence("33", "The BEAST of the greatest AGE (what 0), of alike ones the first, that AGE (1); NONE both: there "
                + "are none.");
        StripeTrade x = Due.of("beast 0 8;beast 0 9;beast 0 9;beast 0 7;");
        Due.is("of 9 and 9 the first", 1, x.oldest(0));
        Due.is("its age", 9, x.oldest(1));
        Due.work(x, "foal 0 1;year;");
        Due.is("a year on", 10, x.oldest(1));
        Due.is("all of age 0", 0, Due.of("beast 0 0;beast 0 0;").oldest(0));
        Due.is("age 0", 0, Due.of("beast 0 0;beast 0 0;").oldest(1));
        Due.is("the last one", 2, Due.of("beast 0 0;beast 0 1;beast 0 40;").oldest(0));
        Due.is("no beasts", -1, new StripeTrade().oldest(0));
        Due.is("no beasts: no age", -1, new StripeTrade().oldest(1));
    }

    private static void richest() {
        Due.sentence("34", "The GATE that took most (what 0), of alike ones the first, how much (1); NONE both: none took "
                + "anything.");
        StripeTrade x = Due.of("beast 0 0;gate 0 0;gate 0 1;gate 0 1;gate 0 5;list 0 0;list 1 0;list 2 0;list 3 0;");
        Due.is("none passed", -1, x.richest(0));
        Due.is("none passed: nothing", -1, x.richest(1));
        Due.work(x, "pass 0 0;");
        Due.is("passed by a fee of 0", -1, x.richest(0));
        Due.is("passed by a fee of 0: nothing", -1, x.richest(1));
        Due.work(x, "pass 0 2;");
        Due.is("1 was taken", 2, x.richest(0));
        Due.is("how much", 1, x.richest(1));
        Due.work(x, "pass 0 1;");
        Due.is("of 1 and 1 the first", 1, x.richest(0));
        Due.work(x, "pass 0 3;");
        Due.is("5 was taken", 3, x.richest(0));
        Due.is("how much", 5, x.richest(1));
        Due.law(x, "9");
        Due.work(x, "pass 0 0;");
        Due.is("9 was taken by the first", 0, x.richest(0));
        Due.is("how much", 9, x.richest(1));
        Due.is("no gates", -1, new StripeTrade().richest(0));
    }

    private static void affords() {
        Due.sentence("35", "How often a BEAST could pass a GATE one behind the other now (200 at most).");
        for (int coins = 198; coins <= 202; coins++) {
            StripeTrade x = Due.of("beast 0 0;gate 0 1;list 0 0;purse " + coins + ";");
            Due.is("coins " + coins, Math.min(coins, 200), x.affords(0, 0));
            Due.is("they stay", coins, x.told(3));
        }
        StripeTrade x = Due.of("beast 0 0;beast 1 0;gate 0 10;gate 3 10;list 0 0;purse 30;");
        Due.is("30 by 10", 3, x.affords(0, 0));
        Due.is("it does not open", 0, x.affords(1, 0));
        Due.is("no list", 0, x.affords(0, 1));
        Due.law(x, "gone*10");
        Due.is("0 + 10 + 20", 3, x.affords(0, 0));
        Due.law(x, "passed*10+1");
        Due.is("1 + 11", 2, x.affords(0, 0));
        Due.is("none has passed by it", 0, x.told(7));
        Due.law(x, "0");
        Due.is("for nothing", 200, x.affords(0, 0));
        StripeTrade y = Due.of("beast 0 0;".repeat(8) + "gate 0 0;".repeat(5) + "list 4 0;purse 30;");
        Due.work(y, "pass 7 4;pass 7 4;pass 6 4;");
        Due.law(y, "passed*gone");
        Due.is("2 by 3, 3 by 4, then 4 by 5 are too many", 2, y.affords(7, 4));
        Due.law(x, "31");
        Due.is("too few coins", 0, x.affords(0, 0));
        Due.law(x, "30");
        Due.is("just enough", 1, x.affords(0, 0));
    }

    /** What is left of a chain of draws, each before it is divided. */
    private static int[] chain(int seed, int many) {
        int[] draws = new int[many];
        long s = seed;
        for (int i = 0; i < many; i++) {
            s = (s * 1103515245L + 12345L) % 4294967296L;
            s = s < 0 ? s + 4294967296L : s;
            draws[i] = (int) (s / 65536 % 32768);
        }
        return draws;
    }

    private static void days() {
        Due.sentence("36", "YEARS of so many days (1 to 96), Q, M (0 to 16): 0 passings in them");
        StripeTrade x = Due.of("beast 0 0;gate 0 1;list 0 0;purse 999;");
        int[] days = {1, 2, 3, 4, 5, 95, 96};
        for (int many : days) {
            Due.is(many + " days", many, x.years(7, many, 0, 0, 0));
            Due.is(many + " days: coins", 999 - many, x.years(7, many, 0, 0, 1));
            Due.is(many + " days, tarred and washed", many, x.years(7, many, 16, 16, 0));
            Due.is(many + " days, tarred and washed: tars", many, x.years(7, many, 16, 16, 3));
        }
        Due.sentence("3", "pass (if it can be done)");
        Due.is("coins for 3", 3, Due.of("beast 0 0;gate 0 1;list 0 0;purse 3;").years(7, 96, 0, 0, 0));
        Due.is("tarred behind the first", 1, x.years(7, 96, 16, 0, 0));
        Due.is("never", 0, Due.of("beast 0 0;gate 0 1;list 0 1;").years(7, 96, 0, 0, 0));
        Due.is("without a list", 0, Due.of("beast 0 0;gate 3 1;").years(7, 96, 0, 0, 0));
    }

    private static void draws() {
        Due.sentence("3", "DRAW: the SEED (32 bits) becomes itself times 1,103,515,245, and 12,345 (it wraps); its bits 16 "
                + "to 30, what is left of them.");
        StringBuilder trade = new StringBuilder();
        for (int b = 0; b < 7; b++) {
            trade.append("beast 0 ").append(b).append(';');
        }
        StripeTrade x = Due.of(trade + "gate 3 0;".repeat(5) + "list 0 0;list 1 0;list 2 0;list 3 0;list 4 0;purse 999;");
        Due.law(x, "age*10+gate");
        int[] seeds = {0, 1, -1, 2, 12345, -98765, 1 << 30, 1 << 16, Integer.MAX_VALUE, Integer.MIN_VALUE, 777777777};
        for (int seed : seeds) {
            int[] c = chain(seed, 12);
            int first = c[0] % 7 * 10 + c[1] % 5;
            Due.is("by how many beasts, by how many gates: seed " + seed, 999 - first, x.years(seed, 1, 0, 0, 1));
            int second = c[4] % 7 * 10 + c[5] % 5;
            Due.is("the next day, two draws by 16 on: seed " + seed, 999 - first - second, x.years(seed, 2, 0, 0, 1));
            int other = c[5] % 7 * 10 + c[6] % 5;
            Due.is("the next day, a draw by 8 on: seed " + seed, 999 - first - other, x.years(seed, 2, 16, 0, 1));
            Due.is("with all drawn: seed " + seed, 999 - first - other, x.years(seed, 2, 16, 16, 1));
            Due.is("tar of this beast: seed " + seed, 1 << c[0] % 7, x.years(seed, 1, 16, 0, 2));
            Due.is("wash of it: seed " + seed, 0, x.years(seed, 1, 16, 16, 2));
        }
    }

    private static void below() {
        Due.sentence("3", "DRAW by 16 below Q: tar of this BEAST at STRIPE DRAW by 8 (if it can); DRAW by 16 below M: wash of "
                + "it (if it can)");
        StripeTrade x = Due.of("beast 0 0;gate 0 0;list 0 0;");
        StripeTrade y = Due.of("beast 0 0;gate 0 0;list 0 0;");
        Due.work(y, "tar 0 0;tar 0 1;tar 0 2;tar 0 3;tar 0 4;tar 0 5;tar 0 6;tar 0 7;");
        for (int seed = 0; seed < 40; seed++) {
            int[] c = chain(seed, 5);
            int q = c[2] % 16;
            Due.is("at Q no tar: seed " + seed, 0, x.years(seed, 1, q, 0, 3));
            Due.is("below Q a tar: seed " + seed, 1, x.years(seed, 1, q + 1, 0, 3));
            Due.is("below Q a tar: seed " + seed, 1, x.years(seed, 1, q + 1, 0, 2));
            Due.is("it can't, if all are 1: seed " + seed, 0, y.years(seed, 1, 16, 0, 3));
            int m = c[3] % 16;
            Due.is("at M no wash: seed " + seed, 1, y.years(seed, 1, 0, m, 2));
            Due.is("below M a wash: seed " + seed, 0, y.years(seed, 1, 0, m + 1, 2));
            int later = c[4] % 16;
            Due.is("behind a draw by 8, at M: seed " + seed, 1, y.years(seed, 1, 16, later, 2));
            Due.is("behind a draw by 8, below M: seed " + seed, 0, y.years(seed, 1, 16, later + 1, 2));
            StripeTrade z = Due.of("beast 0 0;gate 0 0;list 0 0;");
            Due.work(z, "tar 0 " + c[3] % 8 + ";");
            Due.is("the stripe drawn is 1: seed " + seed, 0, z.years(seed, 1, 16, 0, 3));
            Due.work(z, "wash 0;tar 0 " + (c[3] + 1) % 8 + ";");
            Due.is("another stripe is 1: seed " + seed, 1, z.years(seed, 1, 16, 0, 3));
        }
        Due.is("Q 0: never", 0, x.years(5, 96, 0, 0, 3));
        Due.is("M 0: never", 1, y.years(5, 96, 0, 0, 2));
        Due.is("Q 16: all eight stripes", 8, x.years(5, 96, 16, 0, 3));
    }

    private static void behindEachFourth() {
        Due.sentence("3", "behind each 4th year (beyond 300, too)");
        StripeTrade x = Due.of("beast 0 40;gate 0 0;list 0 0;purse 999;");
        Due.law(x, "age-40");
        int[] paid = {0, 0, 0, 0, 1, 2, 3, 4, 6, 8, 10, 12, 15};
        for (int days = 1; days <= 13; days++) {
            Due.is(days + " days", 999 - paid[days - 1], x.years(7, days, 0, 0, 1));
        }
        Due.is("no year has gone by", 0, x.told(2));
        Due.work(x, "again 6[again 30[year;];];");
        Due.work(x, "again 4[again 30[year;];];");
        Due.is("year 300", 300, x.told(2));
        Due.law(x, "age-340");
        for (int days = 1; days <= 13; days++) {
            Due.is("from 300 on " + days + " days", 999 - paid[days - 1], x.years(7, days, 0, 0, 1));
        }
        Due.is("no older", 340, x.beast(0, 2));
    }

    private static void nothingIsDone() {
        Due.sentence("3", "Without BEASTS or GATES nothing is done, there is no DRAW.");
        String[] trades = {"purse 7;", "beast 0 0;purse 7;", "gate 3 0;list 0 0;purse 7;"};
        for (String trade : trades) {
            StripeTrade x = Due.of(trade);
            Due.is("passings: " + trade, 0, x.years(3, 96, 16, 0, 0));
            Due.is("coins: " + trade, 7, x.years(3, 96, 16, 0, 1));
            Due.is("changed: " + trade, 0, x.years(3, 96, 16, 0, 2));
            Due.is("tars: " + trade, 0, x.years(3, 96, 16, 0, 3));
        }
        StripeTrade y = Due.of("beast 0 0;");
        Due.work(y, "tar 0 0;");
        Due.is("no wash", 1, y.years(3, 96, 0, 16, 2));
    }

    private static void whatYearsTell() {
        Due.sentence("36", "1 coins of the dealer then, 2 BEASTS (bits) whose NUMBER is not as it was born then, 3 tars that "
                + "were done.");
        StripeTrade x = Due.of("beast 0 0;beast 0 0;gate 3 5;gate 3 7;list 0 0;list 1 0;purse 90;");
        Due.work(x, "tar 1 0;pass 1 0;");
        String before = Due.state(x);
        int tars = x.years(11, 40, 16, 0, 3);
        Due.is("all stripes at last, but one that was 1", 15, tars);
        Due.is("both are changed", 3, x.years(11, 40, 16, 0, 2));
        Due.is("coins", 83, x.told(3));
        Due.is("what is left is less than a fee, or nobody opens", 1, x.years(11, 40, 0, 0, 1) < 9 ? 1 : 0);
        Due.sentence("3", "Asked, nothing stays changed.");
        Due.same("all", before, Due.state(x));
    }

    private static void spans() {
        Due.sentence("37", "Of so many SEEDS (1 to 20; seed, seed and 1, ..): 0 the fewest passings, 1 the most, 2 by how "
                + "many a BEAST's NUMBER is as it was born then.");
        StripeTrade x = Due.of("beast 0 0;beast 3 0;beast 7 0;gate 1 1;gate 1 2;list 0 0;list 1 3;");
        for (int many = 1; many <= 20; many++) {
            int fewest = 1000;
            int most = 0;
            int[] asBorn = new int[3];
            for (int i = 0; i < many; i++) {
                int passings = x.years(50 + i, 9, 3, 2, 0);
                fewest = Math.min(fewest, passings);
                most = Math.max(most, passings);
                for (int b = 0; b < 3; b++) {
                    asBorn[b] += 1 - (x.years(50 + i, 9, 3, 2, 2) >> b & 1);
                }
            }
            Due.is("the fewest of " + many, fewest, x.span(50, many, 9, 3, 2, 0, 0));
            Due.is("the most of " + many, most, x.span(50, many, 9, 3, 2, 1, 2));
            for (int b = 0; b < 3; b++) {
                Due.is("beast " + b + " of " + many, asBorn[b], x.span(50, many, 9, 3, 2, 2, b));
            }
        }
        Due.is("none is ever tarred", 20, x.span(50, 20, 96, 0, 0, 2, 0));
        StripeTrade one = Due.of("beast 0 0;gate 0 0;list 0 0;");
        Due.is("each is tarred", 0, one.span(50, 20, 96, 16, 0, 2, 0));
        Due.is("each seed from the state now: 1 passing", 1, one.span(50, 20, 96, 16, 0, 1, 0));
        Due.is("each seed from the state now: 1 passing", 1, one.span(50, 20, 96, 16, 0, 0, 0));
        StripeTrade none = Due.of("beast 0 0;");
        Due.is("no gates: fewest", 0, none.span(50, 20, 96, 16, 16, 0, 0));
        Due.is("no gates: most", 0, none.span(50, 20, 96, 16, 16, 1, 0));
        Due.is("no gates: as born", 20, none.span(50, 20, 96, 16, 0, 2, 0));
        Due.work(none, "tar 0 0;");
        Due.is("no gates: tarred ahead", 0, none.span(50, 20, 96, 16, 16, 2, 0));
        Due.sentence("37", "(IllegalArgumentException: no such BEAST, also for 0, 1.)");
        for (int what = 0; what <= 2; what++) {
            int w = what;
            Due.refusedArgument("beast 1 for " + w, () -> none.span(50, 1, 1, 0, 0, w, 1));
            Due.refusedArgument("beast -1 for " + w, () -> none.span(50, 1, 1, 0, 0, w, -1));
            Due.refusedArgument("no beasts for " + w, () -> new StripeTrade().span(50, 1, 1, 0, 0, w, 0));
        }
        Due.is("it is no element that is not there", 0, none.status(0));
    }

    private static void seedsWrap() {
        Due.sentence("Terms", "the SEED (32 bits)");
        StripeTrade x = Due.of("beast 0 0;beast 3 0;beast 7 0;gate 1 1;gate 1 2;list 0 0;list 1 3;");
        int last = x.years(Integer.MAX_VALUE, 9, 3, 2, 0);
        int wrapped = x.years(Integer.MIN_VALUE, 9, 3, 2, 0);
        Due.is("the fewest of the last and the first", Math.min(last, wrapped), x.span(Integer.MAX_VALUE, 2, 9, 3, 2, 0, 0));
        Due.is("the most of the last and the first", Math.max(last, wrapped), x.span(Integer.MAX_VALUE, 2, 9, 3, 2, 1, 0));
        int asBorn = 0;
        for (int i = 0; i < 20; i++) {
            asBorn += 1 - (x.years(Integer.MAX_VALUE - 9 + i, 9, 3, 2, 2) & 1);
        }
        Due.is("of ten and ten", asBorn, x.span(Integer.MAX_VALUE - 9, 20, 9, 3, 2, 2, 0));
    }
}
