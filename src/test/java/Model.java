import java.math.BigInteger;
import java.util.ArrayList;
import java.util.Arrays;
import java.util.HashSet;
import java.util.List;
import java.util.NoSuchElementException;
import java.util.Set;

/** The document once more, told as plainly and slowly as can be, to hold the program against. */
final class Model {
    private static final class Beast {
        int now;
        int born;
        int age;
        int passed;
    }

    private static final class Gate {
        int forgives;
        int toll;
        List<Integer> list = new ArrayList<>();
        int gone;
        int took;
    }

    private static final class World {
        List<Beast> beasts = new ArrayList<>();
        List<Gate> gates = new ArrayList<>();
        int coins = 100;
        int year;

        World copy() {
            World w = new World();
            for (Beast b : beasts) {
                Beast c = new Beast();
                c.now = b.now;
                c.born = b.born;
                c.age = b.age;
                c.passed = b.passed;
                w.beasts.add(c);
            }
            for (Gate g : gates) {
                Gate c = new Gate();
                c.forgives = g.forgives;
                c.toll = g.toll;
                c.list.addAll(g.list);
                c.gone = g.gone;
                c.took = g.took;
                w.gates.add(c);
            }
            w.coins = coins;
            w.year = year;
            return w;
        }
    }

    private static final class Kept {
        World world;
        List<World> past;
    }

    private static final class Fault extends RuntimeException {
        private static final long serialVersionUID = 1;
        final int kind;
        final int at;

        Fault(int kind, int at) {
            this.kind = kind;
            this.at = at;
        }
    }

    private static final class Token {
        String text;
        int at;

        boolean isNumber() {
            return !text.isEmpty() && Character.isDigit(text.charAt(0));
        }

        boolean isWord() {
            return !text.isEmpty() && text.charAt(0) >= 'a' && text.charAt(0) <= 'z';
        }
    }

    /** The tokens of a text, an empty one at its length behind them. */
    private static final class Tokens {
        final List<Token> all = new ArrayList<>();
        int next;

        Tokens(String text) {
            int i = 0;
            while (i < text.length()) {
                char c = text.charAt(i);
                int j = i + 1;
                if (c == ' ') {
                    i++;
                    continue;
                }
                if (c >= '0' && c <= '9') {
                    while (j < text.length() && text.charAt(j) >= '0' && text.charAt(j) <= '9') {
                        j++;
                    }
                } else if (c >= 'a' && c <= 'z') {
                    while (j < text.length() && text.charAt(j) >= 'a' && text.charAt(j) <= 'z') {
                        j++;
                    }
                }
                add(text.substring(i, j), i);
                i = j;
            }
            add("", text.length());
        }

        private void add(String text, int at) {
            Token t = new Token();
            t.text = text;
            t.at = at;
            all.add(t);
        }

        Token look() {
            return all.get(next);
        }

        boolean done() {
            return look().text.isEmpty();
        }

        Token word() {
            Token t = look();
            if (!t.isWord()) {
                throw new Fault(1, t.at);
            }
            next++;
            return t;
        }

        void sign(String s) {
            Token t = look();
            if (!t.text.equals(s)) {
                throw new Fault(1, t.at);
            }
            next++;
        }

        int number(int most, int but) {
            Token t = look();
            if (t.text.isEmpty() || t.text.charAt(0) < '0' || t.text.charAt(0) > '9') {
                throw new Fault(1, t.at);
            }
            BigInteger v = new BigInteger(t.text);
            if (v.compareTo(BigInteger.valueOf(most)) > 0 || v.intValue() == but) {
                throw new Fault(2, t.at);
            }
            next++;
            return v.intValue();
        }
    }

    private static final class Expr {
        String op;
        int number;
        Expr a;
        Expr b;

        int value(java.util.Map<String, Integer> facts) {
            switch (op) {
                case "n":
                    return number;
                case "+":
                    return a.value(facts) + b.value(facts);
                case "-":
                    return a.value(facts) - b.value(facts);
                case "*":
                    return a.value(facts) * b.value(facts);
                case "/": {
                    int d = b.value(facts);
                    return d == 0 ? 0 : (int) ((long) a.value(facts) / d);
                }
                case "%": {
                    int d = b.value(facts);
                    return d == 0 ? 0 : (int) ((long) a.value(facts) % d);
                }
                case "least":
                    return Math.min(a.value(facts), b.value(facts));
                case "most":
                    return Math.max(a.value(facts), b.value(facts));
                default:
                    return facts.get(op);
            }
        }
    }

    private static final class Step {
        String word;
        int a;
        int b;
        List<Step> inner;
    }

    private static final List<String> FACTS =
            Arrays.asList("toll", "apart", "marks", "age", "gone", "passed", "number", "gate");

    private String tape = "";
    private World world = new World();
    private Expr law;
    private List<World> past = new ArrayList<>();
    private final List<Kept> images = new ArrayList<>();
    private int faultPlace = -1;
    private int refusedSteps;
    private int elements;
    private int arguments;
    private int begun;
    private int done;
    private int refused;

    private void arg(boolean fine) {
        if (!fine) {
            arguments++;
            throw new IllegalArgumentException();
        }
    }

    private Beast b(int beast) {
        if (beast < 0 || beast >= world.beasts.size()) {
            elements++;
            throw new NoSuchElementException();
        }
        return world.beasts.get(beast);
    }

    private Gate g(int gate) {
        if (gate < 0 || gate >= world.gates.size()) {
            elements++;
            throw new NoSuchElementException();
        }
        return world.gates.get(gate);
    }

    private void told(int bits, int many) {
        arg(bits >= 0 && bits < Math.pow(2, many));
    }

    int feed(int a, int b, int c, int d, int e) {
        if (tape.length() > 580) {
            return -1;
        }
        for (int n : new int[] {a, b, c, d, e}) {
            tape += "" + (char) (n >>> 24) + (char) (n >>> 16 & 255) + (char) (n >>> 8 & 255) + (char) (n & 255);
        }
        return tape.length();
    }

    private String text(int n, int most) {
        arg(n >= 0 && n <= tape.length() && n <= most);
        String t = tape.substring(0, n);
        tape = "";
        faultPlace = -1;
        return t;
    }

    private int faulty(Fault f) {
        faultPlace = f.at;
        return f.kind - 10;
    }

    int trade(int n) {
        Tokens t = new Tokens(text(n, 600));
        World w = new World();
        try {
            int clauses = 0;
            int listed = 0;
            while (!t.done()) {
                Token word = t.word();
                if (!Arrays.asList("beast", "gate", "list", "purse").contains(word.text)) {
                    throw new Fault(1, word.at);
                }
                clauses++;
                if (clauses > 60 || word.text.equals("beast") && w.beasts.size() == 8
                        || word.text.equals("gate") && w.gates.size() == 5 || word.text.equals("list") && listed == 24) {
                    throw new Fault(3, word.at);
                }
                if (word.text.equals("beast")) {
                    Beast b = new Beast();
                    b.now = t.number(255, -1);
                    b.born = b.now;
                    b.age = t.number(40, -1);
                    w.beasts.add(b);
                } else if (word.text.equals("gate")) {
                    Gate g = new Gate();
                    g.forgives = t.number(3, -1);
                    g.toll = t.number(40, -1);
                    w.gates.add(g);
                } else if (word.text.equals("list")) {
                    Gate g = w.gates.get(check(t, w.gates.size()));
                    g.list.add(t.number(255, -1));
                    listed++;
                } else {
                    w.coins = t.number(999, -1);
                }
                t.sign(";");
            }
        } catch (Fault f) {
            return faulty(f);
        }
        world = w;
        law = null;
        images.clear();
        past.clear();
        refusedSteps = 0;
        return w.beasts.size();
    }

    private static int check(Tokens t, int many) {
        return t.number(many - 1, -1);
    }

    int law(int n) {
        Tokens t = new Tokens(text(n, 150));
        try {
            Expr e = sum(t, 0);
            if (!t.done()) {
                throw new Fault(1, t.look().at);
            }
            law = e;
            return 1;
        } catch (Fault f) {
            return faulty(f);
        }
    }

    private static Expr two(String op, Expr a, Expr b) {
        Expr e = new Expr();
        e.op = op;
        e.a = a;
        e.b = b;
        return e;
    }

    private static Expr sum(Tokens t, int open) {
        Expr e = product(t, open);
        while (t.look().text.equals("+") || t.look().text.equals("-")) {
            String op = t.look().text;
            t.next++;
            e = two(op, e, product(t, open));
        }
        return e;
    }

    private static Expr product(Tokens t, int open) {
        Expr e = unit(t, open);
        while (t.look().text.equals("*") || t.look().text.equals("/") || t.look().text.equals("%")) {
            String op = t.look().text;
            t.next++;
            e = two(op, e, unit(t, open));
        }
        return e;
    }

    private static Expr unit(Tokens t, int open) {
        Token here = t.look();
        if (here.isNumber()) {
            Expr e = two("n", null, null);
            e.number = t.number(999, -1);
            return e;
        }
        boolean opens = Arrays.asList("(", "least", "most").contains(here.text);
        if (opens && open == 6) {
            throw new Fault(3, here.at);
        }
        if (here.text.equals("(")) {
            t.next++;
            Expr e = sum(t, open + 1);
            t.sign(")");
            return e;
        }
        if (opens) {
            t.next++;
            t.sign("[");
            Expr a = sum(t, open + 1);
            t.sign(",");
            Expr b = sum(t, open + 1);
            t.sign("]");
            return two(here.text, a, b);
        }
        if (!FACTS.contains(here.text)) {
            throw new Fault(1, here.at);
        }
        t.next++;
        return two(here.text, null, null);
    }

    int work(int n) {
        String text = text(n, 150);
        if (past.size() == 16) {
            return -20;
        }
        Tokens t = new Tokens(text);
        List<Step> steps;
        try {
            steps = steps(t, 0);
            if (!t.done()) {
                throw new Fault(1, t.look().at);
            }
        } catch (Fault f) {
            return faulty(f);
        }
        past.add(world.copy());
        begun = 0;
        done = 0;
        refused = 0;
        doAll(steps);
        refusedSteps = refused;
        return done;
    }

    private List<Step> steps(Tokens t, int open) {
        List<Step> steps = new ArrayList<>();
        while (!t.done() && !(open > 0 && t.look().text.equals("]"))) {
            Step s = new Step();
            Token word = t.word();
            s.word = word.text;
            int beasts = world.beasts.size();
            switch (s.word) {
                case "tar":
                case "rub":
                    s.a = t.number(beasts - 1, -1);
                    s.b = t.number(7, -1);
                    break;
                case "wash":
                    s.a = t.number(beasts - 1, -1);
                    break;
                case "pass":
                    s.a = t.number(beasts - 1, -1);
                    s.b = t.number(world.gates.size() - 1, -1);
                    break;
                case "foal":
                    s.a = t.number(beasts - 1, -1);
                    s.b = t.number(beasts - 1, s.a);
                    break;
                case "year":
                    break;
                case "again":
                    if (open == 6) {
                        throw new Fault(3, word.at);
                    }
                    s.a = t.number(30, -1);
                    t.sign("[");
                    s.inner = steps(t, open + 1);
                    t.sign("]");
                    break;
                default:
                    throw new Fault(1, word.at);
            }
            t.sign(";");
            steps.add(s);
        }
        return steps;
    }

    private void doAll(List<Step> steps) {
        for (Step s : steps) {
            if (begun == 200) {
                return;
            }
            begun++;
            if (s.inner != null) {
                for (int i = 0; i < s.a; i++) {
                    doAll(s.inner);
                }
            } else if (doOne(s)) {
                done++;
            } else {
                refused++;
            }
        }
    }

    private boolean doOne(Step s) {
        Beast beast = s.word.equals("year") ? null : world.beasts.get(s.a);
        switch (s.word) {
            case "tar":
                if ((beast.now & 1 << s.b) != 0) {
                    return false;
                }
                beast.now += 1 << s.b;
                return true;
            case "rub":
                if ((beast.now & 1 << s.b) == 0) {
                    return false;
                }
                beast.now -= 1 << s.b;
                return true;
            case "wash":
                if (beast.now == beast.born) {
                    return false;
                }
                beast.now = beast.born;
                return true;
            case "pass":
                return passes(world, s.a, s.b);
            case "foal": {
                if (world.beasts.size() == 8) {
                    return false;
                }
                Beast foal = new Beast();
                foal.born = (beast.born + world.beasts.get(s.b).born) % 256;
                foal.now = foal.born;
                world.beasts.add(foal);
                return true;
            }
            default:
                if (world.year >= 300) {
                    return false;
                }
                ageAll(world);
                return true;
        }
    }

    private static void ageAll(World w) {
        w.year++;
        for (Beast b : w.beasts) {
            b.age++;
        }
    }

    private static int apart(int a, int b) {
        int n = 0;
        for (int i = 0; i < 8; i++) {
            n += (a >> i & 1) != (b >> i & 1) ? 1 : 0;
        }
        return n;
    }

    private static int nearest(Gate g, int number) {
        int best = -1;
        for (int n : g.list) {
            if (best < 0 || apart(n, number) < best) {
                best = apart(n, number);
            }
        }
        return best;
    }

    private static boolean opens(Gate g, int number) {
        for (int n : g.list) {
            if (apart(n, number) <= g.forgives) {
                return true;
            }
        }
        return false;
    }

    private int byLaw(int... v) {
        java.util.Map<String, Integer> facts = new java.util.HashMap<>();
        for (int i = 0; i < 8; i++) {
            facts.put(FACTS.get(i), v[i]);
        }
        int fee = law == null ? v[0] + 2 * v[1] : law.value(facts);
        return fee < 0 ? 0 : fee > 99 ? 99 : fee;
    }

    private int feeIn(World w, int beast, int gate, int ahead) {
        Beast b = w.beasts.get(beast);
        Gate g = w.gates.get(gate);
        if (g.list.isEmpty()) {
            return -1;
        }
        return byLaw(g.toll, nearest(g, b.now), apart(b.now, 0), b.age, g.gone + ahead, b.passed, b.now, gate);
    }

    private boolean passes(World w, int beast, int gate) {
        Beast b = w.beasts.get(beast);
        Gate g = w.gates.get(gate);
        if (!opens(g, b.now)) {
            return false;
        }
        int fee = feeIn(w, beast, gate, 0);
        if (w.coins < fee) {
            return false;
        }
        w.coins -= fee;
        g.took += fee;
        g.gone++;
        b.passed++;
        return true;
    }

    int fault() {
        return faultPlace;
    }

    int undo() {
        if (past.isEmpty()) {
            return -1;
        }
        world = past.remove(past.size() - 1).copy();
        refusedSteps = 0;
        return past.size();
    }

    private static int changed(World w) {
        int bits = 0;
        for (int i = 0; i < w.beasts.size(); i++) {
            bits += w.beasts.get(i).now != w.beasts.get(i).born ? 1 << i : 0;
        }
        return bits;
    }

    int told(int what) {
        arg(what >= 0 && what <= 8);
        int took = 0;
        int listed = 0;
        int gone = 0;
        for (Gate g : world.gates) {
            took += g.took;
            listed += g.list.size();
            gone += g.gone;
        }
        return new int[] {world.beasts.size(), world.gates.size(), world.year, world.coins, took, listed, refusedSteps,
            gone, changed(world)}[what];
    }

    int beast(int beast, int what) {
        Beast b = b(beast);
        arg(what >= 0 && what <= 5);
        int open = 0;
        for (int i = 0; i < world.gates.size(); i++) {
            open += opens(world.gates.get(i), b.now) ? 1 << i : 0;
        }
        return new int[] {b.now, b.born, b.age, b.passed, apart(b.now, 0), open}[what];
    }

    private int let(Gate g) {
        int open = 0;
        for (int i = 0; i < world.beasts.size(); i++) {
            open += opens(g, world.beasts.get(i).now) ? 1 << i : 0;
        }
        return open;
    }

    int gate(int gate, int what) {
        Gate g = g(gate);
        arg(what >= 0 && what <= 5);
        return new int[] {g.forgives, g.toll, g.list.size(), g.gone, g.took, let(g)}[what];
    }

    int listed(int gate, int k) {
        Gate g = g(gate);
        arg(k >= 0);
        return k < g.list.size() ? g.list.get(k) : -1;
    }

    int slips(int one, int other) {
        arg(one >= 0 && one <= 255 && other >= 0 && other <= 255);
        return apart(one, other);
    }

    int near(int beast, int gate) {
        Beast b = b(beast);
        return nearest(g(gate), b.now);
    }

    int fee(int beast, int gate) {
        b(beast);
        g(gate);
        return feeIn(world, beast, gate, 0);
    }

    int would(int toll, int apart, int marks, int age, int gone, int passed, int number, int gate) {
        int[] v = {toll, apart, marks, age, gone, passed, number, gate};
        int[] most = {40, 8, 8, 400, 999, 999, 255, 4};
        boolean fine = true;
        for (int i = 0; i < 8; i++) {
            fine &= v[i] >= 0 && v[i] <= most[i];
        }
        arg(fine);
        return byLaw(v);
    }

    int can(int beast, int gate) {
        b(beast);
        g(gate);
        return passes(world.copy(), beast, gate) ? 1 : 0;
    }

    int strokes(int beast, int gate, int what) {
        Beast b = b(beast);
        Gate g = g(gate);
        arg(what == 0 || what == 1);
        for (int many = 0; many <= 8; many++) {
            for (int bits = 0; bits < 256; bits++) {
                if (apart(bits, 0) == many && opens(g, b.now ^ bits)) {
                    return what == 0 ? many : bits;
                }
            }
        }
        return -1;
    }

    private static int pairs(List<Integer> pairs, int what) {
        return what == 0 ? pairs.size() : pairs.isEmpty() ? -1 : pairs.get(0);
    }

    int twins(int k, int what) {
        arg(k >= 0 && k <= 8 && (what == 0 || what == 1));
        List<Integer> pairs = new ArrayList<>();
        for (int i = 0; i < 100; i++) {
            if (i / 10 < i % 10 && i % 10 < world.beasts.size()
                    && apart(world.beasts.get(i / 10).now, world.beasts.get(i % 10).now) <= k) {
                pairs.add(i);
            }
        }
        return pairs(pairs, what);
    }

    private static final int[][] CODES = new int[5][5];

    int code(int n, int d, int what) {
        arg(n >= 1 && n <= 4 && d >= 1 && d <= 4 && (what == 0 || what == 1));
        if (CODES[n][d] == 0) {
            CODES[n][d] = largest(n, d);
        }
        return what == 0 ? Integer.bitCount(CODES[n][d]) : CODES[n][d];
    }

    private static int largest(int n, int d) {
        int best = 0;
        for (int set = 1; set < 1L << (1 << n); set++) {
            boolean fine = Integer.bitCount(set) > Integer.bitCount(best);
            for (int a = 0; fine && a < 1 << n; a++) {
                for (int b = 0; b < a; b++) {
                    fine &= (set >> a & set >> b & 1) == 0 || apart(a, b) >= d;
                }
            }
            best = fine ? set : best;
        }
        return best;
    }

    int parents(int n, int what) {
        arg(n >= 0 && n <= 255 && (what == 0 || what == 1));
        List<Integer> pairs = new ArrayList<>();
        for (int i = 0; i < 100; i++) {
            if (i / 10 < i % 10 && i % 10 < world.beasts.size()
                    && (world.beasts.get(i / 10).born + world.beasts.get(i % 10).born) % 256 == n) {
                pairs.add(i);
            }
        }
        return pairs(pairs, what);
    }

    private List<Integer> herds(int sum) {
        List<Integer> sets = new ArrayList<>();
        for (int set = 0; set < Math.pow(2, world.beasts.size()); set++) {
            int got = 0;
            for (int i = 0; i < world.beasts.size(); i++) {
                got += (set >> i & 1) * world.beasts.get(i).now;
            }
            if (got == sum) {
                sets.add(set);
            }
        }
        return sets;
    }

    int herd(int sum, int what) {
        arg(sum >= 0 && sum <= 2040 && what >= 0 && what <= 2);
        List<Integer> sets = herds(sum);
        int sure = sets.isEmpty() ? 0 : -1;
        for (int set : sets) {
            sure &= set;
        }
        return what == 0 ? sets.size() : what == 2 ? sure : sets.isEmpty() ? -1 : sets.get(0);
    }

    int ask(int sum, int what) {
        arg(sum >= 0 && sum <= 2040 && (what == 0 || what == 1));
        int[] best = {-1, -1};
        for (int i = 0; i < world.beasts.size(); i++) {
            int with = 0;
            int without = 0;
            for (int set : herds(sum)) {
                if ((set >> i & 1) == 1) {
                    with++;
                } else {
                    without++;
                }
            }
            int worst = Math.max(with, without);
            if (best[0] < 0 || worst < best[1]) {
                best = new int[] {i, worst};
            }
        }
        return best[what];
    }

    int cover(int beasts) {
        told(beasts, world.beasts.size());
        for (int many = 0; many <= 5; many++) {
            for (int set = 0; set < Math.pow(2, world.gates.size()); set++) {
                int open = 0;
                for (int i = 0; i < world.gates.size(); i++) {
                    open |= (set >> i & 1) == 1 ? let(world.gates.get(i)) : 0;
                }
                if (Integer.bitCount(set) == many && (open & beasts) == beasts) {
                    return set;
                }
            }
        }
        return -1;
    }

    int list(int beasts, int k) {
        told(beasts, world.beasts.size());
        arg(k >= 0 && k <= 3);
        Set<Integer> masks = new HashSet<>();
        for (int n = 0; n < 256; n++) {
            int mask = 0;
            for (int i = 0; i < world.beasts.size(); i++) {
                mask |= apart(n, world.beasts.get(i).now) <= k ? 1 << i : 0;
            }
            masks.add(mask);
        }
        Set<Integer> reached = new HashSet<>();
        reached.add(0);
        for (int many = 0; many <= 8; many++) {
            if (reached.contains(beasts)) {
                return many;
            }
            Set<Integer> more = new HashSet<>(reached);
            for (int r : reached) {
                for (int m : masks) {
                    more.add(r | m);
                }
            }
            reached = more;
        }
        return -1;
    }

    private int[] bestFile;
    private int bestFees;

    private void tryFiles(int gate, List<Integer> gone, List<Integer> left, int fees) {
        if (left.isEmpty()) {
            if (bestFile == null || fees < bestFees) {
                bestFees = fees;
                bestFile = gone.stream().mapToInt(i -> i).toArray();
            }
            return;
        }
        for (int i = 0; i < left.size(); i++) {
            List<Integer> rest = new ArrayList<>(left);
            int next = rest.remove(i);
            List<Integer> more = new ArrayList<>(gone);
            more.add(next);
            tryFiles(gate, more, rest, fees + feeIn(world, next, gate, gone.size()));
        }
    }

    private boolean findFile(int gate, int beasts) {
        bestFile = null;
        bestFees = 0;
        if (world.gates.get(gate).list.isEmpty()) {
            return false;
        }
        List<Integer> all = new ArrayList<>();
        for (int i = 0; i < 8; i++) {
            if ((beasts >> i & 1) == 1) {
                all.add(i);
            }
        }
        tryFiles(gate, new ArrayList<>(), all, 0);
        return true;
    }

    int file(int gate, int beasts) {
        g(gate);
        told(beasts, world.beasts.size());
        return findFile(gate, beasts) ? bestFees : -1;
    }

    int filed(int gate, int beasts, int k) {
        g(gate);
        told(beasts, world.beasts.size());
        arg(k >= 0);
        return findFile(gate, beasts) && k < bestFile.length ? bestFile[k] : -1;
    }

    long fog(int beast, int gate, int q, int part) {
        Beast b = b(beast);
        Gate g = g(gate);
        arg(q >= 0 && q <= 16 && (part == 0 || part == 1));
        BigInteger above = BigInteger.ZERO;
        for (int read = 0; read < 256; read++) {
            if (opens(g, read)) {
                int wrong = apart(read, b.now);
                above = above.add(BigInteger.valueOf(q).pow(wrong).multiply(BigInteger.valueOf(16 - q).pow(8 - wrong)));
            }
        }
        BigInteger below = BigInteger.valueOf(16).pow(8);
        BigInteger gcd = above.gcd(below);
        return (part == 0 ? above : below).divide(gcd).longValueExact();
    }

    private static int[] gains(int a, int b, int i, int j) {
        int slips = apart(i == 8 ? a : a ^ 1 << i, j == 8 ? b : b ^ 1 << j);
        return slips <= 1 ? new int[] {3, 0} : new int[] {0, slips};
    }

    int dealers(int a, int b, int what) {
        int one = b(a).now;
        int other = b(b).now;
        arg(a != b && what >= 0 && what <= 2);
        int many = 0;
        int first = -1;
        int together = 0;
        for (int i = 0; i <= 8; i++) {
            for (int j = 0; j <= 8; j++) {
                int[] have = gains(one, other, i, j);
                boolean rests = true;
                for (int s = 0; s <= 8; s++) {
                    rests &= gains(one, other, s, j)[0] <= have[0] && gains(one, other, i, s)[1] <= have[1];
                }
                if (rests) {
                    many++;
                    if (many == 1) {
                        first = 10 * i + j;
                        together = have[0] + have[1];
                    }
                }
            }
        }
        return new int[] {many, first, together}[what];
    }

    int share(int gate, int gates, int n) {
        g(gate);
        told(gates, world.gates.size());
        arg(n >= 0 && n <= 999);
        for (int bound = 2000;; bound--) {
            int sum = 0;
            for (int i = 0; i < world.gates.size(); i++) {
                sum += (gates >> i & 1) * Math.min(bound, world.gates.get(i).took);
            }
            if (sum <= n) {
                return (gates >> gate & 1) * Math.min(bound, world.gates.get(gate).took);
            }
        }
    }

    int taken(int beast, int gate) {
        Beast b = b(beast);
        Gate g = g(gate);
        for (int n : g.list) {
            if (apart(n, b.now) == nearest(g, b.now)) {
                return n;
            }
        }
        return -1;
    }

    int cheapest(int beast, int what) {
        Beast b = b(beast);
        arg(what == 0 || what == 1);
        for (int fee = 0; fee <= 99; fee++) {
            for (int i = 0; i < world.gates.size(); i++) {
                if (opens(world.gates.get(i), b.now) && feeIn(world, beast, i, 0) == fee) {
                    return what == 0 ? i : fee;
                }
            }
        }
        return -1;
    }

    int striped(int s) {
        arg(s >= 0 && s <= 7);
        int bits = 0;
        for (int i = 0; i < world.beasts.size(); i++) {
            bits |= (world.beasts.get(i).now & 1 << s) != 0 ? 1 << i : 0;
        }
        return bits;
    }

    int oldest(int what) {
        arg(what == 0 || what == 1);
        for (int age = 400; age >= 0; age--) {
            for (int i = 0; i < world.beasts.size(); i++) {
                if (world.beasts.get(i).age == age) {
                    return what == 0 ? i : age;
                }
            }
        }
        return -1;
    }

    int richest(int what) {
        arg(what == 0 || what == 1);
        for (int took = 999; took > 0; took--) {
            for (int i = 0; i < world.gates.size(); i++) {
                if (world.gates.get(i).took == took) {
                    return what == 0 ? i : took;
                }
            }
        }
        return -1;
    }

    int affords(int beast, int gate) {
        b(beast);
        g(gate);
        World w = world.copy();
        int many = 0;
        while (many < 200 && passes(w, beast, gate)) {
            many++;
        }
        return many;
    }

    private int seed;

    private int draw(int by) {
        seed = (int) (seed * 1103515245L + 12345L);
        return (int) ((seed & 0x7fff0000L) / 65536 % by);
    }

    private int[] live(World w, int from, int days, int q, int m) {
        seed = from;
        int passings = 0;
        int tars = 0;
        if (!w.beasts.isEmpty() && !w.gates.isEmpty()) {
            for (int day = 0; day < days; day++) {
                int who = draw(w.beasts.size());
                int where = draw(w.gates.size());
                Beast b = w.beasts.get(who);
                if (passes(w, who, where)) {
                    passings++;
                }
                if (draw(16) < q) {
                    int stripe = draw(8);
                    if ((b.now >> stripe) % 2 == 0) {
                        b.now += 1 << stripe;
                        tars++;
                    }
                }
                if (draw(16) < m) {
                    b.now = b.born;
                }
                if (day % 4 == 3) {
                    ageAll(w);
                }
            }
        }
        return new int[] {passings, w.coins, changed(w), tars};
    }

    private static boolean areDays(int days, int q, int m) {
        return days >= 1 && days <= 96 && q >= 0 && q <= 16 && m >= 0 && m <= 16;
    }

    int years(int from, int days, int q, int m, int what) {
        arg(areDays(days, q, m) && what >= 0 && what <= 3);
        return live(world.copy(), from, days, q, m)[what];
    }

    int span(int from, int many, int days, int q, int m, int what, int beast) {
        arg(areDays(days, q, m) && many >= 1 && many <= 20 && what >= 0 && what <= 2 && beast >= 0
                && beast < world.beasts.size());
        int fewest = 1000;
        int most = 0;
        int asBorn = 0;
        for (int i = 0; i < many; i++) {
            World w = world.copy();
            int passings = live(w, from + i, days, q, m)[0];
            fewest = Math.min(fewest, passings);
            most = Math.max(most, passings);
            asBorn += (changed(w) >> beast & 1) == 0 ? 1 : 0;
        }
        return new int[] {fewest, most, asBorn}[what];
    }

    int image() {
        if (images.size() == 3) {
            return -1;
        }
        Kept k = new Kept();
        k.world = world.copy();
        k.past = new ArrayList<>(past);
        images.add(k);
        return images.size();
    }

    int restore() {
        if (images.isEmpty()) {
            return -1;
        }
        Kept k = images.remove(images.size() - 1);
        world = k.world;
        past = k.past;
        refusedSteps = 0;
        return images.size();
    }

    int status(int what) {
        return what == 0 ? elements : what == 1 ? arguments : -1;
    }

    int count(int what) {
        return what == 0 ? images.size() : what == 1 ? tape.length() : what == 2 ? past.size() : -1;
    }
}
