import java.util.NoSuchElementException;
import java.util.Random;

/** Runs of calls drawn by fixed seeds, of which the program and the model must answer each alike. */
public final class RandomRunsTest {
    private static final String[] NAMES = {"feed", "trade", "law", "work", "fault", "undo", "told", "beast", "gate",
        "listed", "slips", "near", "fee", "would", "can", "strokes", "twins", "code", "parents", "herd", "ask", "cover",
        "list", "file", "filed", "fog", "dealers", "share", "taken", "cheapest", "striped", "oldest", "richest",
        "affords", "years", "span", "image", "restore", "status", "count"};
    private static final long ELEMENT = Long.MIN_VALUE;
    private static final long ARGUMENT = Long.MIN_VALUE + 1;

    private static Random random;
    private static final StringBuilder RUN = new StringBuilder();
    private static int beasts;
    private static int gates;
    private static int calls;

    private RandomRunsTest() {
    }

    public static void main(String[] args) {
        int runs = args.length > 0 ? Integer.parseInt(args[0]) : 1500;
        int from = args.length > 1 ? Integer.parseInt(args[1]) : 0;
        int[] faults = new int[40];
        for (int run = from; run < from + runs; run++) {
            random = new Random(run);
            RUN.setLength(0);
            if (!oneRun(faults)) {
                System.out.println("run " + run + ":\n" + RUN);
                System.exit(1);
            }
        }
        Due.is("faults of all kinds in all texts met (bits)", 511, kinds(faults));
        Due.end();
    }

    private static int kinds(int[] faults) {
        int bits = 0;
        for (int i = 0; i < 9; i++) {
            bits |= faults[i] > 0 ? 1 << i : 0;
        }
        return bits;
    }

    private static boolean oneRun(int[] faults) {
        StripeTrade x = new StripeTrade();
        Model y = new Model();
        beasts = 0;
        gates = 0;
        calls = 0;
        int most = 100 + random.nextInt(380);
        boolean alike = text(x, y, 0, tradeText(), faults);
        // A text may take 32 calls, and an object is used for 512.
        while (alike && calls < most) {
            int kind = random.nextInt(100);
            if (kind < 2) {
                alike = text(x, y, 0, broken(tradeText()), faults);
            } else if (kind < 6) {
                alike = text(x, y, 1, broken(sum(0)), faults);
            } else if (kind < 20) {
                alike = text(x, y, 2, broken(steps(0)), faults);
            } else {
                alike = call(x, y, random.nextInt(NAMES.length));
            }
            beasts = y.told(0);
            gates = y.told(1);
        }
        return alike;
    }

    private static boolean text(StripeTrade x, Model y, int kind, String text, int[] faults) {
        String t = text.length() > 590 ? text.substring(0, 590) : text;
        RUN.append("text ").append(kind).append(" '").append(t).append("'\n");
        for (int at = 0; at < t.length(); at += 20) {
            int[] v = new int[5];
            for (int i = 0; i < 20; i++) {
                v[i / 4] = v[i / 4] << 8 | (at + i < t.length() ? t.charAt(at + i) : 'z');
            }
            calls++;
            if (!same(x.feed(v[0], v[1], v[2], v[3], v[4]), y.feed(v[0], v[1], v[2], v[3], v[4]))) {
                return false;
            }
        }
        int n = t.length() + (random.nextInt(40) == 0 ? 30 : 0);
        calls++;
        long got = answerOf(x, kind + 1, new int[] {n});
        long want = answerOf(y, kind + 1, new int[] {n});
        if (want >= -9 && want <= -7) {
            faults[(int) (want + 9) * 3 + kind]++;
        }
        RUN.append(NAMES[kind + 1]).append(' ').append(n);
        return same(got, want) && call(x, y, 4);
    }

    private static boolean same(long got, long want) {
        RUN.append(" -> ").append(want).append('\n');
        if (got != want) {
            RUN.append("but ").append(got).append('\n');
        }
        return got == want;
    }

    private static boolean call(StripeTrade x, Model y, int which) {
        calls++;
        int[] v = arguments(which);
        RUN.append(NAMES[which]);
        for (int a : v) {
            RUN.append(' ').append(a);
        }
        return same(answerOf(x, which, v), answerOf(y, which, v));
    }

    private static int upTo(int most) {
        int r = random.nextInt(60);
        if (r == 0) {
            return -1;
        }
        if (r == 1) {
            return most + 1;
        }
        if (r == 2) {
            return random.nextInt();
        }
        return most < 0 ? 0 : random.nextInt(most + 1);
    }

    private static int beast() {
        return upTo(beasts - 1);
    }

    private static int gate() {
        return upTo(gates - 1);
    }

    private static int herdOfBeasts() {
        int bits = upTo((1 << beasts) - 1);
        while (beasts > 5 && bits > 0 && Integer.bitCount(bits) > 5 && random.nextInt(20) > 0) {
            bits &= random.nextInt();
            bits &= 255;
        }
        return bits;
    }

    private static int[] arguments(int which) {
        switch (NAMES[which]) {
            case "feed":
                return new int[] {random.nextInt(), random.nextInt(), -1, 0, random.nextInt()};
            case "trade":
            case "law":
            case "work":
                return new int[] {random.nextInt(10) == 0 ? upTo(160) : -5};
            case "told":
                return new int[] {upTo(8)};
            case "beast":
                return new int[] {beast(), upTo(5)};
            case "gate":
                return new int[] {gate(), upTo(5)};
            case "listed":
                return new int[] {gate(), upTo(6)};
            case "slips":
                return new int[] {upTo(255), upTo(255)};
            case "near":
            case "fee":
            case "can":
            case "taken":
            case "affords":
                return new int[] {beast(), gate()};
            case "would":
                return new int[] {upTo(40), upTo(8), upTo(8), upTo(400), upTo(999), upTo(999), upTo(255), upTo(4)};
            case "strokes":
                return new int[] {beast(), gate(), upTo(1)};
            case "twins":
                return new int[] {upTo(8), upTo(1)};
            case "code":
                return new int[] {1 + upTo(3), 1 + upTo(3), upTo(1)};
            case "parents":
                return new int[] {upTo(255), upTo(1)};
            case "herd":
                return new int[] {random.nextBoolean() ? upTo(2040) : upTo(300), upTo(2)};
            case "ask":
                return new int[] {random.nextBoolean() ? upTo(2040) : upTo(300), upTo(1)};
            case "cover":
                return new int[] {herdOfBeasts()};
            case "list":
                return new int[] {herdOfBeasts(), upTo(3)};
            case "file":
                return new int[] {gate(), herdOfBeasts()};
            case "filed":
                return new int[] {gate(), herdOfBeasts(), upTo(5)};
            case "fog":
                return new int[] {beast(), gate(), upTo(16), upTo(1)};
            case "dealers":
                return new int[] {beast(), beast(), upTo(2)};
            case "share":
                return new int[] {gate(), upTo((1 << gates) - 1), random.nextBoolean() ? upTo(100) : upTo(999)};
            case "cheapest":
                return new int[] {beast(), upTo(1)};
            case "striped":
                return new int[] {upTo(7)};
            case "oldest":
            case "richest":
                return new int[] {upTo(1)};
            case "years":
                return new int[] {random.nextInt(), 1 + upTo(95), upTo(16), upTo(16), upTo(3)};
            case "span":
                return new int[] {random.nextInt(), 1 + upTo(19), 1 + upTo(95), upTo(16), upTo(16), upTo(2), beast()};
            case "status":
            case "count":
                return new int[] {upTo(2)};
            default:
                return new int[0];
        }
    }

    private static long answerOf(Object target, int which, int[] v) {
        Class<?>[] types = new Class<?>[v.length];
        Object[] values = new Object[v.length];
        for (int i = 0; i < v.length; i++) {
            types[i] = int.class;
            values[i] = v[i];
        }
        try {
            java.lang.reflect.Method m = target.getClass().getDeclaredMethod(NAMES[which], types);
            Object got = m.invoke(target, values);
            return got instanceof Boolean ? ((Boolean) got ? 1 : 0) : ((Number) got).longValue();
        } catch (java.lang.reflect.InvocationTargetException e) {
            if (e.getCause().getClass() == NoSuchElementException.class) {
                return ELEMENT;
            }
            if (e.getCause().getClass() == IllegalArgumentException.class) {
                return ARGUMENT;
            }
            throw new IllegalStateException(RUN.toString(), e.getCause());
        } catch (ReflectiveOperationException e) {
            throw new IllegalStateException(e);
        }
    }

    private static String blanks() {
        return random.nextInt(12) == 0 ? " ".repeat(1 + random.nextInt(2)) : "";
    }

    private static String number(int most) {
        int r = random.nextInt(300);
        if (r == 0) {
            return " " + (most + 1);
        }
        if (r == 1) {
            return " 99999999999999999999";
        }
        return " " + (r < 10 ? "0" : "") + blanks() + (most <= 0 ? 0 : random.nextInt(most + 1));
    }

    private static String tradeText() {
        StringBuilder t = new StringBuilder();
        int many = random.nextInt(25) == 0 ? 9 : random.nextInt(9);
        int doors = random.nextInt(25) == 0 ? 6 : random.nextInt(6);
        int close = random.nextInt(3) == 0 ? 15 : 255;
        for (int i = 0; i < many; i++) {
            t.append(blanks()).append("beast").append(number(close)).append(number(40)).append(blanks()).append(';');
        }
        for (int i = 0; i < doors; i++) {
            t.append("gate").append(number(3)).append(number(40)).append(';').append(blanks());
            for (int k = random.nextInt(6); k > 0; k--) {
                t.append("list").append(number(i)).append(number(close)).append(';');
            }
        }
        if (random.nextBoolean()) {
            t.append("purse").append(number(999)).append(';').append(blanks());
        }
        if (random.nextInt(30) == 0) {
            t.append("purse1;".repeat(70));
        }
        return t.toString();
    }

    private static String sum(int depth) {
        StringBuilder t = new StringBuilder(product(depth));
        while (random.nextInt(5) < 2) {
            t.append(blanks()).append(random.nextBoolean() ? '+' : '-').append(product(depth));
        }
        return t.toString();
    }

    private static String product(int depth) {
        StringBuilder t = new StringBuilder(unit(depth));
        while (random.nextInt(5) < 2) {
            t.append(blanks()).append("*/%".charAt(random.nextInt(3))).append(unit(depth));
        }
        return t.toString();
    }

    private static String unit(int depth) {
        String[] facts = {"toll", "apart", "marks", "age", "gone", "passed", "number", "gate"};
        int r = random.nextInt(depth > 6 ? 10 : 14);
        if (r < 3) {
            return number(random.nextBoolean() ? 9 : 999);
        }
        if (r < 10) {
            return blanks() + facts[random.nextInt(8)];
        }
        if (r < 12) {
            return "(".repeat(random.nextInt(12) == 0 ? 6 : 1) + sum(depth + 1) + blanks() + ")";
        }
        return (random.nextBoolean() ? "least" : "most") + blanks() + "[" + sum(depth + 1) + "," + sum(depth + 1) + "]";
    }

    private static String steps(int depth) {
        StringBuilder t = new StringBuilder();
        for (int many = random.nextInt(depth == 0 ? 9 : 4); many > 0; many--) {
            String b = number(beasts - 1);
            switch (random.nextInt(9)) {
                case 0:
                    t.append("tar").append(b).append(number(7));
                    break;
                case 1:
                    t.append("rub").append(b).append(number(7));
                    break;
                case 2:
                    t.append("wash").append(b);
                    break;
                case 3:
                case 4:
                    t.append("pass").append(b).append(number(gates - 1));
                    break;
                case 5:
                    t.append("foal").append(b).append(number(beasts - 1));
                    break;
                case 6:
                    t.append("year");
                    break;
                default:
                    t.append("again").append(number(30)).append(blanks()).append('[');
                    t.append(depth < 7 ? steps(depth + 1) : "").append(']');
                    break;
            }
            t.append(blanks()).append(';');
        }
        if (depth == 0 && random.nextInt(30) == 0) {
            int deep = 5 + random.nextInt(3);
            t.append("again 2[".repeat(deep)).append("year;").append("];".repeat(deep));
        }
        return t.append(blanks()).toString();
    }

    /** Mostly the text itself, now and then with a byte put in, taken out, or cut at some place. */
    private static String broken(String text) {
        int r = random.nextInt(12);
        if (r > 3 || text.isEmpty()) {
            return text;
        }
        int at = random.nextInt(text.length());
        if (r == 0) {
            return text.substring(0, at);
        }
        if (r == 1) {
            return text.substring(0, at) + text.substring(at + 1);
        }
        String signs = " ;[](),+-*/%09azA{\u00ff\u0000\t";
        return text.substring(0, at) + signs.charAt(random.nextInt(signs.length())) + text.substring(at + r % 2);
    }
}
