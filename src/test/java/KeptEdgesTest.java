/** A test for each sentence that names a boundary of what is undone, kept and counted: promises 7, 8, 38 to 41. */
public final class KeptEdgesTest {
    private static final String TWO = "beast 5 3;beast 250 1;gate 0 10;gate 0 1;list 0 5;list 1 5;purse 25;";

    private KeptEdgesTest() {
    }

    public static void main(String[] args) {
        latestWorkIsUndone();
        allOfAWorkIsUndone();
        ofAllBeastsAndGates();
        ofNoStepsOrRefused();
        foalsAreGone();
        noneToUndo();
        refusedByTheLatestWork();
        zeroAheadOfAny();
        aFaultLeavesIt();
        threeImages();
        allThatWorkChanges();
        worksOfAnImage();
        latestImageIsGone();
        noImage();
        notOfAnImage();
        refusedCalls();
        noImageKeepsIt();
        counts();
        noneForOthers();
        fiveHundredAndTwelveCalls();
        Due.end();
    }

    private static void latestWorkIsUndone() {
        Due.sentence("7", "The latest WORK that was done");
        StripeTrade x = Due.of(TWO);
        Due.work(x, "tar 0 1;");
        Due.work(x, "tar 0 3;");
        Due.work(x, "x");
        Due.is("one is left", 1, x.undo());
        Due.is("the latest was undone", 7, x.beast(0, 0));
        Due.work(x, "tar 0 4;");
        Due.is("one is left", 1, x.undo());
        Due.is("the one behind it was undone", 7, x.beast(0, 0));
        Due.is("none is left", 0, x.undo());
        Due.is("as born", 5, x.beast(0, 0));
        for (int i = 0; i < 16; i++) {
            Due.work(x, "year;");
        }
        for (int i = 15; i >= 0; i--) {
            Due.is("left", i, x.undo());
            Due.is("the year then", i, x.told(2));
        }
        Due.is("there is none", -1, x.undo());
    }

    private static void allOfAWorkIsUndone() {
        Due.sentence("7", "is undone");
        StripeTrade x = Due.of(TWO);
        Due.work(x, "tar 1 2;pass 0 0;year;");
        x.undo();
        Due.same("all is as at first", Due.state(Due.of(TWO)), Due.state(x));
        Due.work(x, "tar 1 2;pass 0 1;year;foal 0 1;");
        String before = Due.state(x);
        Due.work(x, "tar 0 1;rub 1 7;pass 0 1;rub 0 1;pass 0 1;pass 0 0;wash 1;year;year;foal 1 0;foal 2 0;");
        x.undo();
        Due.same("all is as behind the first work", before, Due.state(x));
        Due.law(x, "3");
        Due.work(x, "year;");
        Due.law(x, "4");
        x.undo();
        Due.is("the law stays", 4, x.fee(0, 0));
    }

    /** Eight beasts, five gates, and works that change each of them. */
    private static void ofAllBeastsAndGates() {
        Due.sentence("7", "is undone");
        StripeTrade x = Due.of("beast 1 1;beast 2 2;beast 3 3;beast 4 4;beast 5 5;beast 6 6;beast 7 7;"
                + "gate 3 0;gate 3 1;gate 3 2;gate 3 3;gate 3 4;list 0 0;list 1 0;list 2 0;list 3 0;list 4 0;purse 999;");
        Due.work(x, "foal 0 1;pass 0 0;pass 1 1;pass 2 2;pass 3 3;pass 4 4;pass 5 4;pass 6 4;");
        Due.work(x, "pass 7 4;year;tar 0 7;tar 1 7;tar 2 7;tar 3 7;tar 4 7;tar 5 7;tar 6 7;tar 7 7;");
        String first = Due.state(x);
        x.image();
        Due.work(x, "pass 0 0;pass 1 1;pass 2 2;pass 3 3;pass 4 4;pass 5 4;pass 7 4;year;");
        Due.work(x, "rub 0 7;rub 1 7;rub 2 7;rub 3 7;rub 4 7;rub 5 7;rub 6 7;rub 7 7;");
        x.undo();
        x.undo();
        Due.same("all is as it was", first.replace("kept 0 2", "kept 1 2"), Due.state(x));
        x.undo();
        x.undo();
        Due.is("no foal", 7, x.told(0));
        Due.work(x, "foal 5 6;tar 6 6;pass 6 3;pass 5 4;year;year;");
        Due.sentence("39", "All that is as in the latest IMAGE");
        x.restore();
        Due.same("all is as it was", first, Due.state(x));
        Due.is("the foal as it was born", 3, x.beast(7, 1));
    }

    private static void ofNoStepsOrRefused() {
        Due.sentence("7", "(of no STEPS, or with all of them REFUSED, too)");
        StripeTrade x = Due.of(TWO);
        Due.work(x, "tar 0 1;");
        x.work(0);
        Due.work(x, "again 5[];");
        Due.work(x, "wash 1;wash 1;");
        Due.is("four are there", 4, x.count(2));
        Due.is("with all of them refused", 3, x.undo());
        Due.is("of an empty again", 2, x.undo());
        Due.is("of no steps", 1, x.undo());
        Due.is("tarred still", 7, x.beast(0, 0));
        Due.is("the first", 0, x.undo());
        Due.is("as born", 5, x.beast(0, 0));
    }

    private static void foalsAreGone() {
        Due.sentence("7", "(foals of it are gone)");
        StripeTrade x = Due.of(TWO);
        Due.work(x, "foal 0 1;");
        Due.work(x, "foal 2 0;foal 2 1;");
        x.undo();
        Due.is("beasts", 3, x.told(0));
        Due.refusedElement("a foal that is gone", () -> x.beast(3, 0));
        Due.is("the first foal", 255, x.beast(2, 0));
        x.undo();
        Due.is("beasts", 2, x.told(0));
        Due.refusedElement("a foal that is gone", () -> x.near(2, 0));
        Due.is("no step for it", -8, Due.work(x, "wash 2;"));
        Due.is("another foal", 1, Due.work(x, "foal 1 0;"));
        Due.is("its age", 0, x.beast(2, 2));
        StripeTrade y = Due.of("beast 0 0;beast 0 0;gate 0 0;list 0 0;");
        Due.work(y, "foal 0 1;");
        Due.work(y, "tar 2 1;wash 2;pass 2 0;year;");
        y.undo();
        y.undo();
        Due.work(y, "foal 0 1;");
        Due.is("another foal has not passed", 0, y.beast(2, 3));
        Due.is("it is of age 0", 0, y.beast(2, 2));
    }

    private static void noneToUndo() {
        Due.sentence("7", "-1: there is none");
        StripeTrade x = new StripeTrade();
        Due.is("of a new object", -1, x.undo());
        Due.trade(x, TWO);
        Due.is("of a trade", -1, x.undo());
        Due.work(x, "yea;");
        Due.law(x, "7");
        Due.is("behind a fault, a law", -1, x.undo());
        Due.work(x, "year;");
        x.undo();
        String before = Due.state(x);
        Due.is("all undone", -1, x.undo());
        Due.same("nothing is changed", before, Due.state(x));
        Due.work(x, "year;");
        Due.trade(x, TWO);
        Due.is("a trade ends what can be undone", -1, x.undo());
        Due.is("no call was refused", 0, x.status(0) + x.status(1));
    }

    private static void refusedByTheLatestWork() {
        Due.sentence("8", "6 STEPS REFUSED by the latest WORK");
        StripeTrade x = Due.of(TWO);
        Due.work(x, "wash 0;wash 0;year;");
        Due.is("two", 2, x.told(6));
        Due.work(x, "year;");
        Due.is("none by the next", 0, x.told(6));
        Due.work(x, "again 3[wash 0;];pass 1 0;");
        Due.is("four", 4, x.told(6));
        x.work(0);
        Due.is("none by one of no steps", 0, x.told(6));
    }

    private static void zeroAheadOfAny() {
        Due.sentence("8", "0 ahead of any, behind trade() without a FAULT, undo(), restore()");
        StripeTrade x = new StripeTrade();
        Due.is("ahead of any", 0, x.told(6));
        Due.trade(x, TWO);
        Due.is("ahead of any", 0, x.told(6));
        Due.work(x, "wash 0;wash 0;");
        Due.work(x, "wash 0;wash 0;wash 0;");
        x.undo();
        Due.is("behind undo", 0, x.told(6));
        Due.work(x, "wash 0;wash 0;");
        x.image();
        Due.is("image leaves it", 2, x.told(6));
        x.restore();
        Due.is("behind restore, though an image was made with two", 0, x.told(6));
        Due.work(x, "wash 0;wash 0;");
        Due.trade(x, TWO);
        Due.is("behind trade", 0, x.told(6));
    }

    private static void aFaultLeavesIt() {
        Due.sentence("8", "a FAULT, -20, -1 leave it");
        StripeTrade x = Due.of(TWO);
        Due.work(x, "wash 0;wash 0;");
        Due.trade(x, "bear");
        Due.is("a fault of a trade", 2, x.told(6));
        Due.law(x, "bear");
        Due.is("a fault of a law", 2, x.told(6));
        Due.work(x, "wash 0;bear");
        Due.is("a fault of a work", 2, x.told(6));
        Due.law(x, "7");
        Due.is("a law", 2, x.told(6));
        Due.is("-1 of restore", -1, x.restore());
        Due.is("leaves it", 2, x.told(6));
        Due.refusedArgument("an exception of work", () -> x.work(1));
        Due.is("leaves it", 2, x.told(6));
        x.undo();
        Due.work(x, "bear");
        x.image();
        x.restore();
        for (int i = 0; i < 16; i++) {
            Due.work(x, "wash 0;");
        }
        Due.is("-20", -20, Due.work(x, "year;"));
        Due.is("leaves it", 1, x.told(6));
        StripeTrade y = Due.of(TWO);
        y.image();
        Due.work(y, "wash 0;wash 0;");
        y.image();
        y.image();
        Due.is("-1 of image", -1, y.image());
        // -1 of undo can find nothing but 0: what could be undone ahead of it set that.
        Due.is("leaves it", 2, y.told(6));
    }

    private static void threeImages() {
        Due.sentence("38", "how many there are; -1: there are 3");
        StripeTrade x = Due.of(TWO);
        Due.is("first", 1, x.image());
        Due.work(x, "year;");
        Due.is("second", 2, x.image());
        Due.work(x, "year;");
        Due.is("third", 3, x.image());
        Due.work(x, "year;");
        String before = Due.state(x);
        Due.is("no fourth", -1, x.image());
        Due.is("no fourth", -1, x.image());
        Due.same("nothing is changed", before, Due.state(x));
        Due.is("the third is the latest", 2, x.restore());
        Due.is("as it was in it", 2, x.told(2));
        Due.is("third again", 3, x.image());
        Due.is("no fourth", -1, x.image());
        Due.is("no call was refused", 0, x.status(0) + x.status(1));
    }

    private static void allThatWorkChanges() {
        Due.sentence("39", "All that is as in the latest IMAGE, which is gone: how many are left");
        StripeTrade x = Due.of(TWO);
        Due.work(x, "tar 0 1;rub 0 1;pass 0 0;year;tar 1 2;");
        String before = Due.state(x);
        x.image();
        Due.work(x, "wash 1;tar 0 1;rub 1 7;rub 0 1;pass 0 0;pass 0 1;year;foal 0 1;foal 0 1;");
        Due.work(x, "tar 2 1;");
        Due.is("none is left", 0, x.restore());
        Due.same("all is as it was", before, Due.state(x));
        x.image();
        x.undo();
        Due.is("undone", 25, x.told(3));
        x.restore();
        Due.same("all is as it was behind undo, too", before, Due.state(x));
        Due.refusedElement("foals are gone", () -> x.beast(2, 0));
        StripeTrade y = Due.of("beast 1 0;beast 2 0;");
        Due.work(y, "foal 0 1;");
        Due.work(y, "tar 2 4;");
        y.image();
        y.undo();
        y.undo();
        Due.is("the foal is gone", 2, y.told(0));
        Due.work(y, "tar 0 0;");
        Due.trade(y, "bear");
        y.restore();
        Due.is("the foal is back", 19, y.beast(2, 0));
        Due.is("as it was born", 3, y.beast(2, 1));
    }

    private static void worksOfAnImage() {
        Due.sentence("38", "and of WORKS that can be undone");
        StripeTrade x = Due.of(TWO);
        Due.work(x, "tar 0 1;");
        Due.work(x, "tar 0 3;");
        x.image();
        x.undo();
        x.undo();
        Due.work(x, "tar 0 6;");
        Due.work(x, "tar 0 7;");
        Due.work(x, "year;");
        x.restore();
        Due.is("works", 2, x.count(2));
        Due.is("number", 15, x.beast(0, 0));
        Due.is("one is left", 1, x.undo());
        Due.is("the second is undone", 7, x.beast(0, 0));
        Due.is("none is left", 0, x.undo());
        Due.is("the first is undone", 5, x.beast(0, 0));
        Due.is("there is none", -1, x.undo());
        for (int i = 0; i < 16; i++) {
            Due.work(x, "year;");
        }
        x.image();
        x.undo();
        Due.work(x, "tar 0 1;");
        x.restore();
        Due.is("16 works", -20, x.work(0));
        for (int i = 15; i >= 0; i--) {
            Due.is("left", i, x.undo());
            Due.is("the year", i, x.told(2));
        }
    }

    private static void latestImageIsGone() {
        Due.sentence("39", "All that is as in the latest IMAGE, which is gone: how many are left");
        StripeTrade x = Due.of(TWO);
        x.image();
        Due.work(x, "year;");
        x.image();
        Due.work(x, "year;");
        x.image();
        Due.work(x, "year;");
        for (int i = 2; i >= 0; i--) {
            Due.is("left", i, x.restore());
            Due.is("images", i, x.count(0));
            Due.is("the year of image " + i, i, x.told(2));
            Due.is("the works of image " + i, i, x.count(2));
        }
        Due.is("there is none", -1, x.restore());
    }

    private static void noImage() {
        Due.sentence("39", "-1: there is none");
        StripeTrade x = Due.of(TWO);
        Due.work(x, "tar 0 1;wash 1;");
        String before = Due.state(x);
        Due.is("none was made", -1, x.restore());
        Due.same("nothing is changed", before, Due.state(x));
        x.image();
        x.restore();
        Due.is("it is gone", -1, x.restore());
        x.image();
        Due.trade(x, TWO);
        Due.is("a trade ends images", -1, x.restore());
        Due.is("none was counted as refused", 0, x.status(0) + x.status(1));
    }

    private static void notOfAnImage() {
        Due.sentence("38", "An IMAGE of all that WORK changes");
        StripeTrade x = Due.of(TWO);
        x.image();
        Due.law(x, "4");
        Due.work(x, "year");
        Due.feed(x, "year;");
        x.restore();
        Due.is("the law is none of it", 4, x.fee(0, 0));
        Due.is("the tape is none of it", 20, x.count(1));
        Due.is("the fault is none of it", 4, x.fault());
    }

    private static void refusedCalls() {
        Due.sentence("40", "How many calls were refused: 0 NoSuchElementException, 1 IllegalArgumentException");
        StripeTrade x = Due.of(TWO);
        Due.is("none", 0, x.status(0) + x.status(1));
        for (int i = 1; i <= 3; i++) {
            Due.refusedElement("no beast", () -> x.beast(2, 0));
            Due.is("elements", i, x.status(0));
            Due.is("arguments", 0, x.status(1));
        }
        for (int i = 1; i <= 3; i++) {
            Due.refusedArgument("no what", () -> x.told(9));
            Due.is("elements", 3, x.status(0));
            Due.is("arguments", i, x.status(1));
        }
        Due.refusedElement("both: the first goes ahead", () -> x.beast(2, 6));
        Due.is("elements", 4, x.status(0));
        Due.is("arguments", 3, x.status(1));
        Due.refusedArgument("a text", () -> x.work(151));
        Due.is("arguments", 4, x.status(1));
        Due.work(x, "wash 0;wash 0;");
        Due.work(x, "bear");
        x.restore();
        x.status(2);
        x.count(9);
        Due.is("steps, faults, -1, others are no refused calls", 8, x.status(0) + x.status(1));
        Due.trade(x, TWO);
        Due.is("elements stay behind a trade", 4, x.status(0));
        Due.is("arguments stay behind a trade", 4, x.status(1));
    }

    private static void noImageKeepsIt() {
        Due.sentence("40", "(No IMAGE keeps it.)");
        StripeTrade x = Due.of(TWO);
        x.image();
        Due.work(x, "year;");
        Due.refusedElement("no gate", () -> x.gate(2, 0));
        Due.refusedArgument("no what", () -> x.oldest(2));
        x.undo();
        Due.is("undo leaves it", 11, 10 * x.status(0) + x.status(1));
        x.restore();
        Due.is("restore leaves it", 11, 10 * x.status(0) + x.status(1));
    }

    private static void counts() {
        Due.sentence("41", "0 IMAGES, 1 bytes of the TAPE, 2 WORKS that can be undone");
        StripeTrade x = Due.of(TWO);
        Due.is("images", 0, x.count(0));
        Due.is("bytes", 0, x.count(1));
        Due.is("works", 0, x.count(2));
        x.image();
        x.image();
        x.image();
        x.image();
        Due.is("images", 3, x.count(0));
        Due.is("bytes", 0, x.count(1));
        Due.is("works", 0, x.count(2));
        Due.work(x, "year;");
        Due.work(x, "year;");
        Due.is("images", 3, x.count(0));
        Due.is("works", 2, x.count(2));
        Due.feed(x, " ".repeat(600));
        Due.is("bytes", 600, x.count(1));
        x.feed(0, 0, 0, 0, 0);
        Due.is("bytes", 600, x.count(1));
        Due.is("works", 2, x.count(2));
        x.undo();
        x.restore();
        Due.is("images", 2, x.count(0));
        Due.is("bytes", 600, x.count(1));
        Due.is("works", 0, x.count(2));
    }

    private static void noneForOthers() {
        Due.sentence("40", "NONE for others");
        StripeTrade x = new StripeTrade();
        int[] others = {-1, 3, 4, 255, Integer.MIN_VALUE, Integer.MAX_VALUE};
        for (int what : others) {
            Due.is("status(" + what + ")", -1, x.status(what));
        }
        Due.is("status(2)", -1, x.status(2));
        Due.sentence("41", "NONE for others");
        for (int what : others) {
            Due.is("count(" + what + ")", -1, x.count(what));
        }
        Due.is("nothing was refused", 0, x.status(0) + x.status(1));
    }

    private static void fiveHundredAndTwelveCalls() {
        Due.sentence("What it is", "An object is used for at most 512 calls after it has been made");
        StripeTrade x = new StripeTrade();
        for (int i = 0; i < 127; i++) {
            Due.is("call " + (4 * i + 1), 20, x.feed(0x79656172, 0x3b202020, 0x20202020, 0x20202020, 0x20202020));
            Due.is("call " + (4 * i + 2), 1, x.work(5));
            Due.is("call " + (4 * i + 3), 1, x.told(2));
            Due.is("call " + (4 * i + 4), 0, x.undo());
        }
        Due.is("call 509", 20, x.feed(0x79656172, 0x3b202020, 0x20202020, 0x20202020, 0x20202020));
        Due.is("call 510", 1, x.work(5));
        Due.is("call 511", 1, x.image());
        Due.is("call 512", 1, x.told(2));
    }
}
