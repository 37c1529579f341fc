import java.util.NoSuchElementException;

/** A trade in zebras: beasts by their stripes, gates by their lists, work with loops, and what can be asked of them. */
public final class StripeTrade {
    public static final int NONE = -1;

    private static final int MOST_BEASTS = 8;
    private static final int MOST_GATES = 5;
    private static final int MOST_LISTED = 24;
    private static final int MOST_CLAUSES = 60;
    private static final int MOST_TAPE = 600;
    private static final int MOST_TEXT = 150;
    private static final int MOST_OPEN = 6;
    private static final int MOST_BEGUN = 200;
    private static final int MOST_WORKS = 16;
    private static final int MOST_IMAGES = 3;
    private static final int MOST_NUMBER = 255;
    private static final int MOST_FIRST_AGE = 40;
    private static final int MOST_TOLL = 40;
    private static final int MOST_FORGIVEN = 3;
    private static final int MOST_COINS = 999;
    private static final int MOST_FEE = 99;
    private static final int MOST_PASSINGS_ASKED = 200;
    private static final int MOST_SUM = 2040;
    private static final int NUMBERS = 256;
    private static final int STRIPES = 8;
    private static final int CODE_NUMBERS = 16;
    private static final int SIXTEENTHS = 16;
    private static final int LAST_YEAR = 300;
    private static final int FIRST_COINS = 100;
    private static final int CHOICES = 9;

    private static final int FAULT_SIGN = 1;
    private static final int FAULT_NUMBER = 2;
    private static final int FAULT_TOO_MANY = 3;
    private static final int FAULT_BASE = 10;
    private static final int WORKS_FULL = -20;

    private final Tape tape = new Tape();
    private final Rules rules = new Rules();
    private final Stock stock = new Stock();
    private final Stock tried = new Stock();
    private final Book draftBook = new Book();
    private final Law draftLaw = new Law();
    private final Plan plan = new Plan();
    private final Memory memory = new Memory();
    private final Search search = new Search();
    private final Days lived = new Days();
    private int refusedSteps;
    private int refusedElements;
    private int refusedArguments;

    public StripeTrade() {
    }

    public int feed(int a, int b, int c, int d, int e) {
        if (!tape.hasRoomForFive()) {
            return NONE;
        }
        tape.put(a);
        tape.put(b);
        tape.put(c);
        tape.put(d);
        tape.put(e);
        return tape.many;
    }

    public int trade(int n) throws IllegalArgumentException {
        needArgument(isWithin(n, 0, tape.many));
        tape.open(n);
        boolean read = draftBook.readClauses(tape, tried);
        tape.drop();
        if (!read) {
            return tape.faultKind - FAULT_BASE;
        }
        rules.book.copyFrom(draftBook);
        rules.law.setUsual();
        stock.copyFrom(tried);
        memory.clear();
        refusedSteps = 0;
        return stock.beasts;
    }

    public int law(int n) throws IllegalArgumentException {
        needArgument(isWithin(n, 0, Math.min(tape.many, MOST_TEXT)));
        tape.open(n);
        draftLaw.clear();
        boolean read = draftLaw.readSum(tape, 0) && tape.readEnd();
        tape.drop();
        if (!read) {
            return tape.faultKind - FAULT_BASE;
        }
        rules.law.copyFrom(draftLaw);
        return 1;
    }

    public int work(int n) throws IllegalArgumentException {
        needArgument(isWithin(n, 0, Math.min(tape.many, MOST_TEXT)));
        boolean full = memory.works >= MOST_WORKS;
        tape.open(full ? 0 : n);
        boolean read = !full && plan.readWhole(tape, stock.beasts, rules.book.gates);
        tape.drop();
        if (full) {
            return WORKS_FULL;
        }
        if (!read) {
            return tape.faultKind - FAULT_BASE;
        }
        memory.keepForUndo(stock);
        plan.begin();
        plan.doSteps(rules, stock, 0, plan.length, 0);
        refusedSteps = plan.refused;
        return plan.done;
    }

    public int fault() {
        return tape.faultPlace;
    }

    public int undo() {
        if (!memory.takeBack(stock)) {
            return NONE;
        }
        refusedSteps = 0;
        return memory.works;
    }

    public int told(int what) throws IllegalArgumentException {
        needArgument(isWithin(what, 0, 8));
        switch (what) {
            case 0:
                return stock.beasts;
            case 1:
                return rules.book.gates;
            case 2:
                return stock.year;
            case 3:
                return stock.coins;
            case 4:
                return stock.tookInAll();
            case 5:
                return rules.book.listedInAll;
            case 6:
                return refusedSteps;
            case 7:
                return stock.goneInAll();
            default:
                return stock.changedBeasts();
        }
    }

    public int beast(int beast, int what) throws NoSuchElementException, IllegalArgumentException {
        needBeast(beast);
        needArgument(isWithin(what, 0, 5));
        switch (what) {
            case 0:
                return stock.now[beast];
            case 1:
                return stock.born[beast];
            case 2:
                return stock.age[beast];
            case 3:
                return stock.passed[beast];
            case 4:
                return Integer.bitCount(stock.now[beast]);
            default:
                return rules.gatesOpenTo(stock.now[beast]);
        }
    }

    public int gate(int gate, int what) throws NoSuchElementException, IllegalArgumentException {
        needGate(gate);
        needArgument(isWithin(what, 0, 5));
        switch (what) {
            case 0:
                return rules.book.forgives[gate];
            case 1:
                return rules.book.tolls[gate];
            case 2:
                return rules.book.lengths[gate];
            case 3:
                return stock.gone[gate];
            case 4:
                return stock.took[gate];
            default:
                return rules.beastsLetThrough(stock, gate);
        }
    }

    public int listed(int gate, int k) throws NoSuchElementException, IllegalArgumentException {
        needGate(gate);
        needArgument(k >= 0);
        return k < rules.book.lengths[gate] ? rules.book.numbers[gate][k] : NONE;
    }

    public int slips(int one, int other) throws IllegalArgumentException {
        needArgument(isWithin(one, 0, MOST_NUMBER) && isWithin(other, 0, MOST_NUMBER));
        return Integer.bitCount(one ^ other);
    }

    public int near(int beast, int gate) throws NoSuchElementException {
        needBeastAndGate(beast, gate);
        return rules.slipsToNearest(stock.now[beast], gate);
    }

    public int fee(int beast, int gate) throws NoSuchElementException {
        needBeastAndGate(beast, gate);
        return rules.feeOf(stock, beast, gate, stock.gone[gate]);
    }

    public int would(int toll, int apart, int marks, int age, int gone, int passed, int number, int gate)
            throws IllegalArgumentException {
        needArgument(isWithin(toll, 0, MOST_TOLL) && isWithin(apart, 0, STRIPES) && isWithin(marks, 0, STRIPES)
                && isWithin(age, 0, 400) && isWithin(gone, 0, 999) && isWithin(passed, 0, 999)
                && isWithin(number, 0, MOST_NUMBER) && isWithin(gate, 0, MOST_GATES - 1));
        int[] facts = rules.facts;
        facts[Law.TOLL] = toll;
        facts[Law.APART] = apart;
        facts[Law.MARKS] = marks;
        facts[Law.AGE] = age;
        facts[Law.GONE] = gone;
        facts[Law.PASSED] = passed;
        facts[Law.NUMBER] = number;
        facts[Law.GATE] = gate;
        return rules.law.feeFor(facts);
    }

    public boolean can(int beast, int gate) throws NoSuchElementException {
        needBeastAndGate(beast, gate);
        return rules.priceOf(stock, beast, gate) != NONE;
    }

    public int strokes(int beast, int gate, int what) throws NoSuchElementException, IllegalArgumentException {
        needBeastAndGate(beast, gate);
        needArgument(isWithin(what, 0, 1));
        int changes = rules.fewestStrokes(stock.now[beast], gate);
        return what == 0 && changes != NONE ? Integer.bitCount(changes) : changes;
    }

    public int twins(int k, int what) throws IllegalArgumentException {
        needArgument(isWithin(k, 0, STRIPES) && isWithin(what, 0, 1));
        int many = 0;
        int first = NONE;
        for (int a = 0; a < stock.beasts; a++) {
            for (int b = a + 1; b < stock.beasts; b++) {
                if (Integer.bitCount(stock.now[a] ^ stock.now[b]) <= k) {
                    first = many == 0 ? 10 * a + b : first;
                    many++;
                }
            }
        }
        return what == 0 ? many : first;
    }

    public int code(int n, int d, int what) throws IllegalArgumentException {
        needArgument(isWithin(n, 1, 4) && isWithin(d, 1, 4) && isWithin(what, 0, 1));
        int set = search.largestCode(1 << n, d);
        return what == 0 ? Integer.bitCount(set) : set;
    }

    public int parents(int n, int what) throws IllegalArgumentException {
        needArgument(isWithin(n, 0, MOST_NUMBER) && isWithin(what, 0, 1));
        int many = 0;
        int first = NONE;
        for (int a = 0; a < stock.beasts; a++) {
            for (int b = a + 1; b < stock.beasts; b++) {
                if (stock.foalNumber(a, b) == n) {
                    first = many == 0 ? 10 * a + b : first;
                    many++;
                }
            }
        }
        return what == 0 ? many : first;
    }

    public int herd(int sum, int what) throws IllegalArgumentException {
        needArgument(isWithin(sum, 0, MOST_SUM) && isWithin(what, 0, 2));
        search.findHerds(stock, sum);
        if (what == 0) {
            return search.herds;
        }
        return what == 1 ? search.firstHerd : search.sureBeasts;
    }

    public int ask(int sum, int what) throws IllegalArgumentException {
        needArgument(isWithin(sum, 0, MOST_SUM) && isWithin(what, 0, 1));
        search.findHerds(stock, sum);
        int best = NONE;
        int fewest = NONE;
        for (int b = 0; b < stock.beasts; b++) {
            int worst = Math.max(search.herdsWith[b], search.herds - search.herdsWith[b]);
            if (best == NONE || worst < fewest) {
                best = b;
                fewest = worst;
            }
        }
        return what == 0 ? best : fewest;
    }

    public int cover(int beasts) throws IllegalArgumentException {
        needArgument(areBeasts(beasts));
        int best = NONE;
        for (int gates = 0; gates < 1 << rules.book.gates; gates++) {
            boolean fewer = best == NONE || Integer.bitCount(gates) < Integer.bitCount(best);
            if (fewer && (beasts & ~beastsLetThroughAny(gates)) == 0) {
                best = gates;
            }
        }
        return best;
    }

    public int list(int beasts, int k) throws IllegalArgumentException {
        needArgument(areBeasts(beasts) && isWithin(k, 0, MOST_FORGIVEN));
        return search.shortestList(stock, beasts, k);
    }

    public int file(int gate, int beasts) throws NoSuchElementException, IllegalArgumentException {
        needGate(gate);
        needArgument(areBeasts(beasts));
        if (rules.book.lengths[gate] == 0) {
            return NONE;
        }
        return search.leastFees(rules, stock, gate, beasts);
    }

    public int filed(int gate, int beasts, int k) throws NoSuchElementException, IllegalArgumentException {
        needGate(gate);
        needArgument(areBeasts(beasts) && k >= 0);
        if (rules.book.lengths[gate] == 0 || k >= Integer.bitCount(beasts)) {
            return NONE;
        }
        search.leastFees(rules, stock, gate, beasts);
        return search.beastInFile(beasts, k);
    }

    public long fog(int beast, int gate, int q, int part) throws NoSuchElementException, IllegalArgumentException {
        needBeastAndGate(beast, gate);
        needArgument(isWithin(q, 0, SIXTEENTHS) && isWithin(part, 0, 1));
        long above = rules.openingsInFog(stock.now[beast], gate, q);
        long below = 1L << 32;
        // The whole is a power of two, so halving both is all the shortening there can be.
        for (int i = 0; i < 32 && above % 2 == 0; i++) {
            above /= 2;
            below /= 2;
        }
        return part == 0 ? above : below;
    }

    public int dealers(int a, int b, int what) throws NoSuchElementException, IllegalArgumentException {
        needBeast(a);
        needBeast(b);
        needArgument(a != b && isWithin(what, 0, 2));
        int apart = stock.now[a] ^ stock.now[b];
        int many = 0;
        int first = NONE;
        for (int choice = 0; choice < CHOICES * CHOICES; choice++) {
            if (isRest(apart, choice / CHOICES, choice % CHOICES)) {
                first = many == 0 ? 10 * (choice / CHOICES) + choice % CHOICES : first;
                many++;
            }
        }
        if (what == 2) {
            int i = first / 10;
            int j = first % 10;
            return first == NONE ? 0 : gainOfOne(apart, i, j) + gainOfOther(apart, i, j);
        }
        return what == 0 ? many : first;
    }

    public int share(int gate, int gates, int n) throws NoSuchElementException, IllegalArgumentException {
        needGate(gate);
        needArgument(isWithin(gates, 0, (1 << rules.book.gates) - 1) && isWithin(n, 0, MOST_COINS));
        if ((gates >> gate & 1) == 0) {
            return 0;
        }
        int bound = 0;
        while (bound < MOST_COINS && givenBelow(gates, bound + 1) <= n) {
            bound++;
        }
        return Math.min(stock.took[gate], bound);
    }

    public int taken(int beast, int gate) throws NoSuchElementException {
        needBeastAndGate(beast, gate);
        return rules.nearestListed(stock.now[beast], gate);
    }

    public int cheapest(int beast, int what) throws NoSuchElementException, IllegalArgumentException {
        needBeast(beast);
        needArgument(isWithin(what, 0, 1));
        int best = NONE;
        int least = NONE;
        for (int g = 0; g < rules.book.gates; g++) {
            if (rules.isOpen(stock.now[beast], g)) {
                int price = rules.feeOf(stock, beast, g, stock.gone[g]);
                if (best == NONE || price < least) {
                    best = g;
                    least = price;
                }
            }
        }
        return what == 0 ? best : least;
    }

    public int striped(int s) throws IllegalArgumentException {
        needArgument(isWithin(s, 0, STRIPES - 1));
        int bits = 0;
        for (int b = 0; b < stock.beasts; b++) {
            bits |= (stock.now[b] >> s & 1) << b;
        }
        return bits;
    }

    public int oldest(int what) throws IllegalArgumentException {
        needArgument(isWithin(what, 0, 1));
        int best = NONE;
        int greatest = NONE;
        for (int b = 0; b < stock.beasts; b++) {
            if (stock.age[b] > greatest) {
                best = b;
                greatest = stock.age[b];
            }
        }
        return what == 0 ? best : greatest;
    }

    public int richest(int what) throws IllegalArgumentException {
        needArgument(isWithin(what, 0, 1));
        int best = NONE;
        int most = 0;
        for (int g = 0; g < rules.book.gates; g++) {
            if (stock.took[g] > most) {
                best = g;
                most = stock.took[g];
            }
        }
        return what == 0 || best == NONE ? best : most;
    }

    public int affords(int beast, int gate) throws NoSuchElementException {
        needBeastAndGate(beast, gate);
        tried.copyFrom(stock);
        int many = 0;
        while (many < MOST_PASSINGS_ASKED && rules.tryPass(tried, beast, gate)) {
            many++;
        }
        return many;
    }

    public int years(int seed, int days, int q, int m, int what) throws IllegalArgumentException {
        needArgument(areDays(days, q, m) && isWithin(what, 0, 3));
        tried.copyFrom(stock);
        lived.live(rules, tried, seed, days, q, m);
        switch (what) {
            case 0:
                return lived.passings;
            case 1:
                return tried.coins;
            case 2:
                return tried.changedBeasts();
            default:
                return lived.tars;
        }
    }

    public int span(int seed, int many, int days, int q, int m, int what, int beast) throws IllegalArgumentException {
        needArgument(isWithin(many, 1, 20) && areDays(days, q, m) && isWithin(what, 0, 2)
                && isWithin(beast, 0, stock.beasts - 1));
        int fewest = NONE;
        int most = NONE;
        int asBorn = 0;
        for (int i = 0; i < many; i++) {
            tried.copyFrom(stock);
            lived.live(rules, tried, seed + i, days, q, m);
            fewest = fewest == NONE ? lived.passings : Math.min(fewest, lived.passings);
            most = Math.max(most, lived.passings);
            asBorn += tried.now[beast] == tried.born[beast] ? 1 : 0;
        }
        if (what == 0) {
            return fewest;
        }
        return what == 1 ? most : asBorn;
    }

    public int image() {
        return memory.keepImage(stock) ? memory.kept : NONE;
    }

    public int restore() {
        if (!memory.takeImage(stock)) {
            return NONE;
        }
        refusedSteps = 0;
        return memory.kept;
    }

    public int status(int what) {
        switch (what) {
            case 0:
                return refusedElements;
            case 1:
                return refusedArguments;
            default:
                return NONE;
        }
    }

    public int count(int what) {
        switch (what) {
            case 0:
                return memory.kept;
            case 1:
                return tape.many;
            case 2:
                return memory.works;
            default:
                return NONE;
        }
    }

    private static boolean isWithin(int value, int least, int most) {
        return value >= least && value <= most;
    }

    private boolean areBeasts(int bits) {
        return isWithin(bits, 0, (1 << stock.beasts) - 1);
    }

    private static boolean areDays(int days, int q, int m) {
        return isWithin(days, 1, 96) && isWithin(q, 0, SIXTEENTHS) && isWithin(m, 0, SIXTEENTHS);
    }

    private void needArgument(boolean fine) {
        if (!fine) {
            refusedArguments++;
            throw new IllegalArgumentException("an argument that the document does not allow");
        }
    }

    private void needBeast(int beast) {
        needElement(isWithin(beast, 0, stock.beasts - 1));
    }

    private void needGate(int gate) {
        needElement(isWithin(gate, 0, rules.book.gates - 1));
    }

    private void needBeastAndGate(int beast, int gate) {
        needBeast(beast);
        needGate(gate);
    }

    private void needElement(boolean there) {
        if (!there) {
            refusedElements++;
            throw new NoSuchElementException("no such beast or gate");
        }
    }

    private int beastsLetThroughAny(int gates) {
        int bits = 0;
        for (int g = 0; g < rules.book.gates; g++) {
            if ((gates >> g & 1) == 1) {
                bits |= rules.beastsLetThrough(stock, g);
            }
        }
        return bits;
    }

    private int givenBelow(int gates, int bound) {
        int given = 0;
        for (int g = 0; g < rules.book.gates; g++) {
            if ((gates >> g & 1) == 1) {
                given += Math.min(stock.took[g], bound);
            }
        }
        return given;
    }

    /** Slips left between two numbers once stripe i of the one and j of the other (8: none) are changed. */
    private static int slipsAfter(int apart, int i, int j) {
        int left = apart;
        if (i < STRIPES) {
            left ^= 1 << i;
        }
        if (j < STRIPES) {
            left ^= 1 << j;
        }
        return Integer.bitCount(left);
    }

    private static int gainOfOne(int apart, int i, int j) {
        return slipsAfter(apart, i, j) <= 1 ? 3 : 0;
    }

    private static int gainOfOther(int apart, int i, int j) {
        int slips = slipsAfter(apart, i, j);
        return slips <= 1 ? 0 : slips;
    }

    private static boolean isRest(int apart, int i, int j) {
        int one = gainOfOne(apart, i, j);
        int other = gainOfOther(apart, i, j);
        for (int s = 0; s < CHOICES; s++) {
            if (gainOfOne(apart, s, j) > one || gainOfOther(apart, i, s) > other) {
                return false;
            }
        }
        return true;
    }

    /** The bytes that were fed, and the reading of one text from their start. */
    private static final class Tape {
        private static final int FED_AT_ONCE = 20;
        private static final int NO_NUMBER_IS_SO_BIG = 100000;

        private final int[] bytes = new int[MOST_TAPE];
        private int many;
        private int end;
        private int place;
        private int wordPlace;
        private int numberPlace;
        private int faultKind;
        private int faultPlace = NONE;

        private boolean hasRoomForFive() {
            return many + FED_AT_ONCE <= MOST_TAPE;
        }

        private void put(int number) {
            for (int shift = 24; shift >= 0; shift -= 8) {
                if (many < MOST_TAPE) {
                    bytes[many] = number >>> shift & 255;
                    many++;
                }
            }
        }

        private void open(int n) {
            // Behind this, a place below the end is a byte that is there.
            end = Math.max(0, Math.min(n, many));
            place = 0;
            faultKind = 0;
            faultPlace = NONE;
        }

        private void drop() {
            many = 0;
        }

        private boolean refuse(int kind, int at) {
            faultKind = kind;
            faultPlace = at;
            return false;
        }

        private int nextSign() {
            while (place < end && bytes[place] == ' ') {
                place++;
            }
            return place < end ? bytes[place] : NONE;
        }

        private boolean takeSign(int sign) {
            if (nextSign() != sign) {
                return refuse(FAULT_SIGN, place);
            }
            place++;
            return true;
        }

        private boolean isAtEnd() {
            return nextSign() == NONE;
        }

        private boolean readEnd() {
            return isAtEnd() || refuse(FAULT_SIGN, place);
        }

        private static boolean isDigit(int sign) {
            return sign >= '0' && sign <= '9';
        }

        private static boolean isLetter(int sign) {
            return sign >= 'a' && sign <= 'z';
        }

        /** The number that stands next, or NONE behind a fault. */
        private int readNumber(int most) {
            nextSign();
            numberPlace = place;
            int value = 0;
            while (place < end && isDigit(bytes[place])) {
                value = Math.min(value * 10 + bytes[place] - '0', NO_NUMBER_IS_SO_BIG);
                place++;
            }
            if (place == numberPlace) {
                refuse(FAULT_SIGN, place);
                return NONE;
            }
            if (value > most) {
                refuse(FAULT_NUMBER, numberPlace);
                return NONE;
            }
            return value;
        }

        private void readWord() {
            nextSign();
            wordPlace = place;
            while (place < end && isLetter(bytes[place])) {
                place++;
            }
        }

        private boolean isWord(String word) {
            if (place - wordPlace != word.length()) {
                return false;
            }
            for (int i = 0; i < word.length(); i++) {
                if (bytes[wordPlace + i] != word.charAt(i)) {
                    return false;
                }
            }
            return true;
        }
    }

    /** What work changes: the beasts, what the gates took, the purse and the year. */
    private static final class Stock {
        private static final int CELLS = 4 * MOST_BEASTS + 2 * MOST_GATES + 3;
        private static final int BORN_AT = MOST_BEASTS;
        private static final int AGE_AT = 2 * MOST_BEASTS;
        private static final int PASSED_AT = 3 * MOST_BEASTS;
        private static final int GONE_AT = 4 * MOST_BEASTS;
        private static final int TOOK_AT = GONE_AT + MOST_GATES;
        private static final int BEASTS_AT = TOOK_AT + MOST_GATES;
        private static final int YEAR_AT = BEASTS_AT + 1;
        private static final int COINS_AT = BEASTS_AT + 2;

        private final int[] now = new int[MOST_BEASTS];
        private final int[] born = new int[MOST_BEASTS];
        private final int[] age = new int[MOST_BEASTS];
        private final int[] passed = new int[MOST_BEASTS];
        private final int[] gone = new int[MOST_GATES];
        private final int[] took = new int[MOST_GATES];
        private int beasts;
        private int year;
        private int coins = FIRST_COINS;

        private void clear() {
            beasts = 0;
            year = 0;
            coins = FIRST_COINS;
            for (int g = 0; g < MOST_GATES; g++) {
                gone[g] = 0;
                took[g] = 0;
            }
        }

        private void copyFrom(Stock other) {
            System.arraycopy(other.now, 0, now, 0, MOST_BEASTS);
            System.arraycopy(other.born, 0, born, 0, MOST_BEASTS);
            System.arraycopy(other.age, 0, age, 0, MOST_BEASTS);
            System.arraycopy(other.passed, 0, passed, 0, MOST_BEASTS);
            System.arraycopy(other.gone, 0, gone, 0, MOST_GATES);
            System.arraycopy(other.took, 0, took, 0, MOST_GATES);
            beasts = other.beasts;
            year = other.year;
            coins = other.coins;
        }

        private void writeTo(int[] row, int at) {
            if (at < 0 || at > row.length - CELLS) {
                return;
            }
            System.arraycopy(now, 0, row, at, MOST_BEASTS);
            System.arraycopy(born, 0, row, at + BORN_AT, MOST_BEASTS);
            System.arraycopy(age, 0, row, at + AGE_AT, MOST_BEASTS);
            System.arraycopy(passed, 0, row, at + PASSED_AT, MOST_BEASTS);
            System.arraycopy(gone, 0, row, at + GONE_AT, MOST_GATES);
            System.arraycopy(took, 0, row, at + TOOK_AT, MOST_GATES);
            row[at + BEASTS_AT] = beasts;
            row[at + YEAR_AT] = year;
            row[at + COINS_AT] = coins;
        }

        private void readFrom(int[] row, int at) {
            if (at < 0 || at > row.length - CELLS) {
                return;
            }
            System.arraycopy(row, at, now, 0, MOST_BEASTS);
            System.arraycopy(row, at + BORN_AT, born, 0, MOST_BEASTS);
            System.arraycopy(row, at + AGE_AT, age, 0, MOST_BEASTS);
            System.arraycopy(row, at + PASSED_AT, passed, 0, MOST_BEASTS);
            System.arraycopy(row, at + GONE_AT, gone, 0, MOST_GATES);
            System.arraycopy(row, at + TOOK_AT, took, 0, MOST_GATES);
            beasts = row[at + BEASTS_AT];
            year = row[at + YEAR_AT];
            coins = row[at + COINS_AT];
        }

        private boolean addBeast(int number, int firstAge) {
            if (beasts >= MOST_BEASTS) {
                return false;
            }
            now[beasts] = number;
            born[beasts] = number;
            age[beasts] = firstAge;
            passed[beasts] = 0;
            beasts++;
            return true;
        }

        private int foalNumber(int a, int b) {
            return (born[a] + born[b]) % NUMBERS;
        }

        /** Makes a stripe 1 or 0, unless it is so. */
        private boolean setStripe(int beast, int stripe, int to) {
            if ((now[beast] >> stripe & 1) == to) {
                return false;
            }
            now[beast] ^= 1 << stripe;
            return true;
        }

        private boolean clean(int beast) {
            if (now[beast] == born[beast]) {
                return false;
            }
            now[beast] = born[beast];
            return true;
        }

        private void growOlder() {
            year++;
            for (int b = 0; b < beasts; b++) {
                age[b]++;
            }
        }

        private int changedBeasts() {
            int bits = 0;
            for (int b = 0; b < beasts; b++) {
                if (now[b] != born[b]) {
                    bits |= 1 << b;
                }
            }
            return bits;
        }

        private int goneInAll() {
            int sum = 0;
            for (int g = 0; g < MOST_GATES; g++) {
                sum += gone[g];
            }
            return sum;
        }

        private int tookInAll() {
            int sum = 0;
            for (int g = 0; g < MOST_GATES; g++) {
                sum += took[g];
            }
            return sum;
        }
    }

    /** What a trade tells of its gates; no work changes it. */
    private static final class Book {
        private static final int BEAST = 0;
        private static final int GATE = 1;
        private static final int LIST = 2;
        private static final int PURSE = 3;

        private final int[] forgives = new int[MOST_GATES];
        private final int[] tolls = new int[MOST_GATES];
        private final int[] lengths = new int[MOST_GATES];
        private final int[][] numbers = new int[MOST_GATES][MOST_LISTED];
        private int gates;
        private int listedInAll;

        private void copyFrom(Book other) {
            System.arraycopy(other.forgives, 0, forgives, 0, MOST_GATES);
            System.arraycopy(other.tolls, 0, tolls, 0, MOST_GATES);
            System.arraycopy(other.lengths, 0, lengths, 0, MOST_GATES);
            for (int g = 0; g < MOST_GATES; g++) {
                System.arraycopy(other.numbers[g], 0, numbers[g], 0, MOST_LISTED);
            }
            gates = other.gates;
            listedInAll = other.listedInAll;
        }

        private boolean readClauses(Tape tape, Stock start) {
            gates = 0;
            listedInAll = 0;
            start.clear();
            for (int clause = 0; clause <= MOST_CLAUSES; clause++) {
                if (tape.isAtEnd()) {
                    return true;
                }
                tape.readWord();
                int kind = clauseKind(tape);
                if (kind == NONE) {
                    return tape.refuse(FAULT_SIGN, tape.wordPlace);
                }
                if (clause == MOST_CLAUSES || isFull(kind, start)) {
                    return tape.refuse(FAULT_TOO_MANY, tape.wordPlace);
                }
                if (!readClause(kind, tape, start) || !tape.takeSign(';')) {
                    return false;
                }
            }
            return false;
        }

        private static int clauseKind(Tape tape) {
            if (tape.isWord("beast")) {
                return BEAST;
            }
            if (tape.isWord("gate")) {
                return GATE;
            }
            if (tape.isWord("list")) {
                return LIST;
            }
            return tape.isWord("purse") ? PURSE : NONE;
        }

        private boolean isFull(int kind, Stock start) {
            switch (kind) {
                case BEAST:
                    return start.beasts >= MOST_BEASTS;
                case GATE:
                    return gates >= MOST_GATES;
                case LIST:
                    return listedInAll >= MOST_LISTED;
                default:
                    return false;
            }
        }

        private boolean readClause(int kind, Tape tape, Stock start) {
            int first = tape.readNumber(mostOfFirst(kind));
            if (first == NONE) {
                return false;
            }
            if (kind == PURSE) {
                start.coins = first;
                return true;
            }
            int second = tape.readNumber(mostOfSecond(kind));
            if (second == NONE) {
                return false;
            }
            switch (kind) {
                case BEAST:
                    return start.addBeast(first, second);
                case GATE:
                    return addGate(first, second);
                default:
                    return addToList(first, second);
            }
        }

        private int mostOfFirst(int kind) {
            switch (kind) {
                case BEAST:
                    return MOST_NUMBER;
                case GATE:
                    return MOST_FORGIVEN;
                case LIST:
                    return gates - 1;
                default:
                    return MOST_COINS;
            }
        }

        private static int mostOfSecond(int kind) {
            switch (kind) {
                case BEAST:
                    return MOST_FIRST_AGE;
                case GATE:
                    return MOST_TOLL;
                default:
                    return MOST_NUMBER;
            }
        }

        private boolean addGate(int forgiven, int toll) {
            if (gates >= MOST_GATES) {
                return false;
            }
            forgives[gates] = forgiven;
            tolls[gates] = toll;
            lengths[gates] = 0;
            gates++;
            return true;
        }

        private boolean addToList(int gate, int number) {
            if (gate < 0 || gate >= MOST_GATES || lengths[gate] >= MOST_LISTED) {
                return false;
            }
            numbers[gate][lengths[gate]] = number;
            lengths[gate]++;
            listedInAll++;
            return true;
        }
    }

    /** What a passing costs, kept with every operator behind its two values. */
    private static final class Law {
        private static final int TOLL = 0;
        private static final int APART = 1;
        private static final int MARKS = 2;
        private static final int AGE = 3;
        private static final int GONE = 4;
        private static final int PASSED = 5;
        private static final int NUMBER = 6;
        private static final int GATE = 7;
        private static final int FACTS = 8;

        private static final int PUT_NUMBER = 0;
        private static final int PUT_FACT = 1;
        private static final int ADD = 2;
        private static final int TAKE = 3;
        private static final int TIMES = 4;
        private static final int DIVIDE = 5;
        private static final int LEAVE = 6;
        private static final int LEAST = 7;
        private static final int MOST = 8;

        private final int[] kinds = new int[MOST_TEXT];
        private final int[] values = new int[MOST_TEXT];
        private final int[] stack = new int[MOST_TEXT];
        private int length;

        private Law() {
            setUsual();
        }

        private void clear() {
            length = 0;
        }

        /** toll + apart * 2 */
        private void setUsual() {
            clear();
            add(PUT_FACT, TOLL);
            add(PUT_FACT, APART);
            add(PUT_NUMBER, 2);
            add(TIMES, 0);
            add(ADD, 0);
        }

        private void copyFrom(Law other) {
            length = other.length;
            System.arraycopy(other.kinds, 0, kinds, 0, MOST_TEXT);
            System.arraycopy(other.values, 0, values, 0, MOST_TEXT);
        }

        private void add(int kind, int value) {
            if (length < MOST_TEXT) {
                kinds[length] = kind;
                values[length] = value;
                length++;
            }
        }

        private boolean readSum(Tape tape, int open) {
            if (!readProduct(tape, open)) {
                return false;
            }
            for (int i = 0; i < MOST_TEXT; i++) {
                int sign = tape.nextSign();
                if (sign != '+' && sign != '-') {
                    return true;
                }
                if (!tape.takeSign(sign) || !readProduct(tape, open)) {
                    return false;
                }
                add(sign == '+' ? ADD : TAKE, 0);
            }
            return true;
        }

        private boolean readProduct(Tape tape, int open) {
            if (!readUnit(tape, open)) {
                return false;
            }
            for (int i = 0; i < MOST_TEXT; i++) {
                int sign = tape.nextSign();
                if (sign != '*' && sign != '/' && sign != '%') {
                    return true;
                }
                if (!tape.takeSign(sign) || !readUnit(tape, open)) {
                    return false;
                }
                add(sign == '*' ? TIMES : sign == '/' ? DIVIDE : LEAVE, 0);
            }
            return true;
        }

        private boolean readUnit(Tape tape, int open) {
            int sign = tape.nextSign();
            if (sign == '(') {
                return readGroup(tape, open);
            }
            if (!Tape.isLetter(sign)) {
                int number = tape.readNumber(999);
                add(PUT_NUMBER, number);
                return number != NONE;
            }
            tape.readWord();
            if (tape.isWord("least")) {
                return readPair(tape, open, LEAST);
            }
            if (tape.isWord("most")) {
                return readPair(tape, open, MOST);
            }
            int fact = factNamed(tape);
            if (fact == NONE) {
                return tape.refuse(FAULT_SIGN, tape.wordPlace);
            }
            add(PUT_FACT, fact);
            return true;
        }

        private boolean readGroup(Tape tape, int open) {
            if (open >= MOST_OPEN) {
                return tape.refuse(FAULT_TOO_MANY, tape.place);
            }
            return tape.takeSign('(') && readSum(tape, open + 1) && tape.takeSign(')');
        }

        private boolean readPair(Tape tape, int open, int kind) {
            if (open >= MOST_OPEN) {
                return tape.refuse(FAULT_TOO_MANY, tape.wordPlace);
            }
            boolean read = tape.takeSign('[') && readSum(tape, open + 1)
                    && tape.takeSign(',') && readSum(tape, open + 1) && tape.takeSign(']');
            add(kind, 0);
            return read;
        }

        private static int factNamed(Tape tape) {
            if (tape.isWord("toll")) {
                return TOLL;
            }
            if (tape.isWord("apart")) {
                return APART;
            }
            if (tape.isWord("marks")) {
                return MARKS;
            }
            if (tape.isWord("age")) {
                return AGE;
            }
            if (tape.isWord("gone")) {
                return GONE;
            }
            if (tape.isWord("passed")) {
                return PASSED;
            }
            if (tape.isWord("number")) {
                return NUMBER;
            }
            return tape.isWord("gate") ? GATE : NONE;
        }

        private int feeFor(int[] facts) {
            int top = 0;
            for (int i = 0; i < length; i++) {
                int kind = kinds[i];
                int value = values[i];
                if (kind == PUT_NUMBER || kind == PUT_FACT) {
                    if (top < MOST_TEXT && value >= 0) {
                        stack[top] = kind == PUT_FACT && value < facts.length ? facts[value] : value;
                        top++;
                    }
                } else if (top >= 2) {
                    top--;
                    stack[top - 1] = joined(kind, stack[top - 1], stack[top]);
                }
            }
            return Math.max(0, Math.min(MOST_FEE, stack[0]));
        }

        private static int joined(int kind, int a, int b) {
            switch (kind) {
                case ADD:
                    return a + b;
                case TAKE:
                    return a - b;
                case TIMES:
                    return a * b;
                case DIVIDE:
                    return b == 0 ? 0 : a / b;
                case LEAVE:
                    return b == 0 ? 0 : a % b;
                case LEAST:
                    return a < b ? a : b;
                default:
                    return a > b ? a : b;
            }
        }
    }

    /** What the gates do with beasts: who is read as whom, who is let through, and for how much. */
    private static final class Rules {
        private final Book book = new Book();
        private final Law law = new Law();
        private final int[] facts = new int[Law.FACTS];

        private int slipsToNearest(int number, int gate) {
            int least = NONE;
            for (int k = 0; k < book.lengths[gate]; k++) {
                int slips = Integer.bitCount(number ^ book.numbers[gate][k]);
                least = least == NONE ? slips : Math.min(least, slips);
            }
            return least;
        }

        private int nearestListed(int number, int gate) {
            int least = slipsToNearest(number, gate);
            for (int k = 0; k < book.lengths[gate]; k++) {
                if (Integer.bitCount(number ^ book.numbers[gate][k]) == least) {
                    return book.numbers[gate][k];
                }
            }
            return NONE;
        }

        private boolean isOpen(int number, int gate) {
            int apart = slipsToNearest(number, gate);
            return apart != NONE && apart <= book.forgives[gate];
        }

        private int gatesOpenTo(int number) {
            int bits = 0;
            for (int g = 0; g < book.gates; g++) {
                if (isOpen(number, g)) {
                    bits |= 1 << g;
                }
            }
            return bits;
        }

        private int beastsLetThrough(Stock stock, int gate) {
            int bits = 0;
            for (int b = 0; b < stock.beasts; b++) {
                if (isOpen(stock.now[b], gate)) {
                    bits |= 1 << b;
                }
            }
            return bits;
        }

        private int feeOf(Stock stock, int beast, int gate, int gone) {
            int apart = slipsToNearest(stock.now[beast], gate);
            if (apart == NONE) {
                return NONE;
            }
            noteFacts(stock, beast, gate, apart, gone);
            return law.feeFor(facts);
        }

        private void noteFacts(Stock stock, int beast, int gate, int apart, int gone) {
            facts[Law.TOLL] = book.tolls[gate];
            facts[Law.APART] = apart;
            facts[Law.MARKS] = Integer.bitCount(stock.now[beast]);
            facts[Law.AGE] = stock.age[beast];
            facts[Law.GONE] = gone;
            facts[Law.PASSED] = stock.passed[beast];
            facts[Law.NUMBER] = stock.now[beast];
            facts[Law.GATE] = gate;
        }

        /** What a passing costs now, NONE if it can't be done. */
        private int priceOf(Stock stock, int beast, int gate) {
            int apart = slipsToNearest(stock.now[beast], gate);
            if (apart == NONE || apart > book.forgives[gate]) {
                return NONE;
            }
            noteFacts(stock, beast, gate, apart, stock.gone[gate]);
            int price = law.feeFor(facts);
            return price <= stock.coins ? price : NONE;
        }

        private boolean tryPass(Stock stock, int beast, int gate) {
            int price = priceOf(stock, beast, gate);
            if (price == NONE) {
                return false;
            }
            stock.coins -= price;
            stock.took[gate] += price;
            stock.gone[gate]++;
            stock.passed[beast]++;
            return true;
        }

        /** The stripes to change, NONE without a list. */
        private int fewestStrokes(int number, int gate) {
            int best = NONE;
            for (int k = 0; k < book.lengths[gate]; k++) {
                int changes = number ^ book.numbers[gate][k];
                // What the gate forgives is left as it is, from the highest stripe on, so that the least bits change.
                for (int forgiven = 0; forgiven < book.forgives[gate]; forgiven++) {
                    changes &= ~Integer.highestOneBit(changes);
                }
                if (best == NONE || isBefore(changes, best)) {
                    best = changes;
                }
            }
            return best;
        }

        private static boolean isBefore(int set, int other) {
            int more = Integer.bitCount(set) - Integer.bitCount(other);
            return more < 0 || more == 0 && set < other;
        }

        /** Of 16 to the power of 8, how much of the fog opens the gate. */
        private long openingsInFog(int number, int gate, int q) {
            long sum = 0;
            for (int wrong = 0; wrong < NUMBERS; wrong++) {
                if (isOpen(number ^ wrong, gate)) {
                    long weight = 1;
                    for (int s = 0; s < STRIPES; s++) {
                        weight *= (wrong >> s & 1) == 1 ? q : SIXTEENTHS - q;
                    }
                    sum += weight;
                }
            }
            return sum;
        }
    }

    /** A work as it was read, and the doing of it. */
    private static final class Plan {
        private static final int TAR = 0;
        private static final int RUB = 1;
        private static final int WASH = 2;
        private static final int PASS = 3;
        private static final int FOAL = 4;
        private static final int YEAR = 5;
        private static final int AGAIN = 6;
        private static final int MOST_ROUNDS = 30;

        private final int[] kinds = new int[MOST_TEXT];
        private final int[] firsts = new int[MOST_TEXT];
        /** Of an again: the place behind its last step. */
        private final int[] seconds = new int[MOST_TEXT];
        private int length;
        private int beasts;
        private int gates;
        private int begun;
        private int done;
        private int refused;

        private boolean readWhole(Tape tape, int beastsThere, int gatesThere) {
            length = 0;
            beasts = beastsThere;
            gates = gatesThere;
            return readSteps(tape, 0);
        }

        private boolean readSteps(Tape tape, int open) {
            for (int step = 0; step <= MOST_TEXT; step++) {
                int sign = tape.nextSign();
                if (sign == (open == 0 ? NONE : ']')) {
                    return true;
                }
                if (!readStep(tape, open) || !tape.takeSign(';')) {
                    return false;
                }
            }
            return false;
        }

        private boolean readStep(Tape tape, int open) {
            tape.readWord();
            int kind = stepKind(tape);
            if (kind == NONE || length >= MOST_TEXT) {
                return tape.refuse(FAULT_SIGN, tape.wordPlace);
            }
            if (kind == AGAIN && open >= MOST_OPEN) {
                return tape.refuse(FAULT_TOO_MANY, tape.wordPlace);
            }
            int at = length;
            length++;
            kinds[at] = kind;
            if (kind == YEAR) {
                return true;
            }
            firsts[at] = tape.readNumber(kind == AGAIN ? MOST_ROUNDS : beasts - 1);
            if (firsts[at] == NONE || kind == WASH) {
                return firsts[at] != NONE;
            }
            return kind == AGAIN ? readRounds(tape, open, at) : readSecond(tape, at);
        }

        private boolean readRounds(Tape tape, int open, int at) {
            boolean read = tape.takeSign('[') && readSteps(tape, open + 1) && tape.takeSign(']');
            seconds[at] = length;
            return read;
        }

        private boolean readSecond(Tape tape, int at) {
            int kind = kinds[at];
            int most = kind == PASS ? gates - 1 : kind == FOAL ? beasts - 1 : STRIPES - 1;
            seconds[at] = tape.readNumber(most);
            if (kind == FOAL && seconds[at] == firsts[at]) {
                return tape.refuse(FAULT_NUMBER, tape.numberPlace);
            }
            return seconds[at] != NONE;
        }

        private static int stepKind(Tape tape) {
            if (tape.isWord("tar")) {
                return TAR;
            }
            if (tape.isWord("rub")) {
                return RUB;
            }
            if (tape.isWord("wash")) {
                return WASH;
            }
            if (tape.isWord("pass")) {
                return PASS;
            }
            if (tape.isWord("foal")) {
                return FOAL;
            }
            if (tape.isWord("year")) {
                return YEAR;
            }
            return tape.isWord("again") ? AGAIN : NONE;
        }

        private void begin() {
            begun = 0;
            done = 0;
            refused = 0;
        }

        private void doSteps(Rules rules, Stock stock, int from, int to, int open) {
            int at = from;
            for (int i = 0; i < MOST_TEXT && at < to && at < MOST_TEXT && begun < MOST_BEGUN; i++) {
                begun++;
                if (kinds[at] == AGAIN) {
                    int behind = seconds[at];
                    for (int round = 0; round < firsts[at] && open < MOST_OPEN && begun < MOST_BEGUN; round++) {
                        doSteps(rules, stock, at + 1, behind, open + 1);
                    }
                    at = behind;
                } else {
                    if (doStep(rules, stock, kinds[at], firsts[at], seconds[at])) {
                        done++;
                    } else {
                        refused++;
                    }
                    at++;
                }
            }
        }

        private static boolean doStep(Rules rules, Stock stock, int kind, int first, int second) {
            switch (kind) {
                case TAR:
                    return stock.setStripe(first, second, 1);
                case RUB:
                    return stock.setStripe(first, second, 0);
                case WASH:
                    return stock.clean(first);
                case PASS:
                    return rules.tryPass(stock, first, second);
                case FOAL:
                    return stock.addBeast(stock.foalNumber(first, second), 0);
                default:
                    if (stock.year >= LAST_YEAR) {
                        return false;
                    }
                    stock.growOlder();
                    return true;
            }
        }
    }

    /** What can be undone, and the images. */
    private static final class Memory {
        private static final int PAST_CELLS = MOST_WORKS * Stock.CELLS;
        private static final int WORKS_AT = PAST_CELLS + Stock.CELLS;

        private final int[] past = new int[PAST_CELLS];
        private final int[][] images = new int[MOST_IMAGES][WORKS_AT + 1];
        private int works;
        private int kept;

        private void clear() {
            works = 0;
            kept = 0;
        }

        private void keepForUndo(Stock stock) {
            if (works < MOST_WORKS) {
                stock.writeTo(past, works * Stock.CELLS);
                works++;
            }
        }

        private boolean takeBack(Stock stock) {
            if (works <= 0) {
                return false;
            }
            works--;
            stock.readFrom(past, works * Stock.CELLS);
            return true;
        }

        private boolean keepImage(Stock stock) {
            if (kept >= MOST_IMAGES) {
                return false;
            }
            int[] row = images[kept];
            System.arraycopy(past, 0, row, 0, PAST_CELLS);
            stock.writeTo(row, PAST_CELLS);
            row[WORKS_AT] = works;
            kept++;
            return true;
        }

        private boolean takeImage(Stock stock) {
            if (kept <= 0) {
                return false;
            }
            kept--;
            int[] row = images[kept];
            System.arraycopy(row, 0, past, 0, PAST_CELLS);
            stock.readFrom(row, PAST_CELLS);
            works = row[WORKS_AT];
            return true;
        }
    }

    /** Days as a seed draws them. */
    private static final class Days {
        private static final int DAYS_OF_A_YEAR = 4;

        private int seed;
        private int passings;
        private int tars;

        private void live(Rules rules, Stock stock, int from, int days, int q, int m) {
            seed = from;
            passings = 0;
            tars = 0;
            if (stock.beasts == 0 || rules.book.gates == 0) {
                return;
            }
            for (int day = 1; day <= days; day++) {
                liveDay(rules, stock, q, m);
                if (day % DAYS_OF_A_YEAR == 0) {
                    stock.growOlder();
                }
            }
        }

        private void liveDay(Rules rules, Stock stock, int q, int m) {
            int beast = draw(stock.beasts);
            int gate = draw(rules.book.gates);
            if (rules.tryPass(stock, beast, gate)) {
                passings++;
            }
            if (draw(SIXTEENTHS) < q && stock.setStripe(beast, draw(STRIPES), 1)) {
                tars++;
            }
            if (draw(SIXTEENTHS) < m) {
                stock.clean(beast);
            }
        }

        private int draw(int by) {
            seed = seed * 1103515245 + 12345;
            return by <= 0 ? 0 : (seed >>> 16 & 32767) % by;
        }
    }

    /** What is found by trying sets: herds, codes, lists and files. */
    private static final class Search {
        private final int[] herdsWith = new int[MOST_BEASTS];
        private final int[] tooNear = new int[CODE_NUMBERS];
        private final int[] least = new int[1 << MOST_BEASTS];
        private final int[] groups = new int[NUMBERS];
        private final int[] fees = new int[MOST_BEASTS * MOST_BEASTS];
        private int herds;
        private int firstHerd;
        private int sureBeasts;

        private void findHerds(Stock stock, int sum) {
            herds = 0;
            firstHerd = NONE;
            sureBeasts = 0;
            for (int b = 0; b < MOST_BEASTS; b++) {
                herdsWith[b] = 0;
            }
            for (int set = 0; set < 1 << stock.beasts; set++) {
                if (sumOf(stock, set) == sum) {
                    firstHerd = herds == 0 ? set : firstHerd;
                    sureBeasts = herds == 0 ? set : sureBeasts & set;
                    herds++;
                    addMembers(set);
                }
            }
        }

        private static int sumOf(Stock stock, int set) {
            int sum = 0;
            for (int b = 0; b < stock.beasts; b++) {
                if ((set >> b & 1) == 1) {
                    sum += stock.now[b];
                }
            }
            return sum;
        }

        private void addMembers(int set) {
            for (int b = 0; b < MOST_BEASTS; b++) {
                herdsWith[b] += set >> b & 1;
            }
        }

        private int largestCode(int numbers, int apart) {
            for (int a = 0; a < CODE_NUMBERS; a++) {
                tooNear[a] = 0;
                for (int b = 0; b < CODE_NUMBERS; b++) {
                    if (Integer.bitCount(a ^ b) < apart) {
                        tooNear[a] |= 1 << b;
                    }
                }
            }
            return largerCode(tooNear, 0, (1 << numbers) - 1, 0, 0);
        }

        /**
         * The best code there is of those chosen and some of those that are free, if it has more numbers than best.
         * Highest numbers are left out first, so that of alike codes that of the least bits is met first.
         */
        private static int largerCode(int[] tooNear, int chosen, int free, int best, int depth) {
            if (Integer.bitCount(chosen) + Integer.bitCount(free) <= Integer.bitCount(best)) {
                return best;
            }
            int top = 31 - Integer.numberOfLeadingZeros(free);
            if (top < 0 || top >= tooNear.length || depth > CODE_NUMBERS) {
                return chosen;
            }
            int rest = free & ~(1 << top);
            int without = largerCode(tooNear, chosen, rest, best, depth + 1);
            return largerCode(tooNear, chosen | 1 << top, rest & ~tooNear[top], without, depth + 1);
        }

        private int shortestList(Stock stock, int beasts, int forgiven) {
            int many = findGroups(stock, beasts, forgiven);
            least[0] = 0;
            for (int set = 1; set <= beasts; set++) {
                least[set] = NONE;
                int lowest = set & -set;
                for (int i = 0; i < many; i++) {
                    int left = least[set & ~groups[i]];
                    if ((groups[i] & lowest) != 0 && left != NONE && (least[set] == NONE || left + 1 < least[set])) {
                        least[set] = left + 1;
                    }
                }
            }
            return least[beasts];
        }

        /** Finds the unlike sets of told beasts that one number lets through without any other beast: how many. */
        private int findGroups(Stock stock, int beasts, int forgiven) {
            int many = 0;
            for (int number = 0; number < NUMBERS; number++) {
                int group = 0;
                for (int b = 0; b < stock.beasts; b++) {
                    if (Integer.bitCount(number ^ stock.now[b]) <= forgiven) {
                        group |= 1 << b;
                    }
                }
                if (group != 0 && (group & ~beasts) == 0 && !isGroup(group, many)) {
                    groups[many] = group;
                    many++;
                }
            }
            return many;
        }

        private boolean isGroup(int group, int many) {
            for (int i = 0; i < many; i++) {
                if (groups[i] == group) {
                    return true;
                }
            }
            return false;
        }

        /** The least fees together; least[] then holds those of every rest of the file. */
        private int leastFees(Rules rules, Stock stock, int gate, int beasts) {
            int size = Integer.bitCount(beasts);
            for (int b = 0; b < stock.beasts; b++) {
                for (int ahead = 0; ahead < size; ahead++) {
                    fees[b * MOST_BEASTS + ahead] = rules.feeOf(stock, b, gate, stock.gone[gate] + ahead);
                }
            }
            least[0] = 0;
            for (int set = 1; set <= beasts; set++) {
                if ((set & ~beasts) == 0) {
                    least[set] = feesWhenNext(set, nextInFile(set, size), size);
                }
            }
            return least[beasts];
        }

        private int feesWhenNext(int set, int beast, int size) {
            return fees[beast * MOST_BEASTS + size - Integer.bitCount(set)] + least[set & ~(1 << beast)];
        }

        /** Who of those who still wait goes next, the first of alike ones. */
        private int nextInFile(int set, int size) {
            int next = 0;
            int fewest = NONE;
            for (int b = 0; b < MOST_BEASTS; b++) {
                if ((set >> b & 1) == 1) {
                    int together = feesWhenNext(set, b, size);
                    if (fewest == NONE || together < fewest) {
                        next = b;
                        fewest = together;
                    }
                }
            }
            return next;
        }

        private int beastInFile(int beasts, int k) {
            int size = Integer.bitCount(beasts);
            int set = beasts;
            for (int i = 0; i < k && set != 0; i++) {
                set &= ~(1 << nextInFile(set, size));
            }
            return nextInFile(set, size);
        }
    }
}
