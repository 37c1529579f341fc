import java.lang.reflect.InvocationTargetException;
import java.lang.reflect.Method;
import java.util.NoSuchElementException;

/**
 * The ranges of all arguments of promises 3 to 41, at and beyond both ends of each: which calls are refused, by which
 * exception, that it is counted, and that neither a refused call nor a question changes anything.
 */
public final class RefusalsTest {
    /** B, G: no such one is no such element; beast, the others: it is a wrong argument; beasts, gates: bits. */
    private static final String[] CALLS = {"trade tape", "law tape", "work tape", "told 0..8", "beast B 0..5",
        "gate G 0..5", "listed G 0..max", "slips 0..255 0..255", "near B G", "fee B G",
        "would 0..40 0..8 0..8 0..400 0..999 0..999 0..255 0..4", "can B G", "strokes B G 0..1", "twins 0..8 0..1",
        "code 1..4 1..4 0..1", "parents 0..255 0..1", "herd 0..2040 0..2", "ask 0..2040 0..1", "cover beasts",
        "list beasts 0..3", "file G beasts", "filed G beasts 0..max", "fog B G 0..16 0..1", "dealers B B 0..2",
        "share G gates 0..999", "taken B G", "cheapest B 0..1", "striped 0..7", "oldest 0..1", "richest 0..1",
        "affords B G", "years min..max 1..96 0..16 0..16 0..3", "span min..max 1..20 1..96 0..16 0..16 0..2 beast",
        "status min..max", "count min..max", "fault", "image", "restore", "undo"};

    private static final String[] TRADES = {"", "beast 5 3;", "gate 1 9;list 0 5;",
        "beast 5 3;beast 7 1;beast 200 9;gate 1 10;gate 0 4;list 0 4;list 0 255;list 1 7;purse 60;",
        "beast 5 3;".repeat(8) + "gate 3 2;".repeat(5) + "list 4 0;list 0 9;list 0 1;purse 99;"};

    private static int beasts;
    private static int gates;

    private RefusalsTest() {
    }

    public static void main(String[] args) throws ReflectiveOperationException {
        for (String trade : TRADES) {
            beasts = trade.split("beast", -1).length - 1;
            gates = trade.split("gate", -1).length - 1;
            for (String call : CALLS) {
                Due.sentence("trade of " + beasts + " beasts, " + gates + " gates", call);
                rangesOf(trade, call.split(" "));
            }
        }
        Due.end();
    }

    /** An object with a law, a work of refused steps, an image, 20 bytes on the tape, 2 refused calls. */
    private static StripeTrade objectOf(String trade) {
        StripeTrade x = Due.of(trade);
        Due.law(x, "toll+gone+marks");
        Due.work(x, "year;year;");
        x.image();
        if (beasts > 0) {
            Due.work(x, "tar 0 1;tar 0 1;wash 0;rub 0 0;");
        }
        if (beasts > 0 && gates > 0) {
            Due.work(x, "pass 0 0;pass 0 0;tar 0 6;");
        }
        Due.feed(x, "1");
        Due.refusedElement("no beast 8", () -> x.beast(8, 0));
        Due.refusedArgument("no what 9", () -> x.told(9));
        return x;
    }

    private static long leastOf(String kind) {
        if (kind.contains("..")) {
            String least = kind.substring(0, kind.indexOf('.'));
            return least.equals("min") ? Integer.MIN_VALUE : Long.parseLong(least);
        }
        return 0;
    }

    private static long mostOf(String kind) {
        switch (kind) {
            case "B":
            case "beast":
                return beasts - 1;
            case "G":
                return gates - 1;
            case "beasts":
                return (1 << beasts) - 1;
            case "gates":
                return (1 << gates) - 1;
            case "tape":
                return 20;
            default:
                String most = kind.substring(kind.indexOf('.') + 2);
                return most.equals("max") ? Integer.MAX_VALUE : Long.parseLong(most);
        }
    }

    private static void rangesOf(String trade, String[] call) throws ReflectiveOperationException {
        long[] least = new long[call.length - 1];
        long[] most = new long[call.length - 1];
        for (int i = 0; i < least.length; i++) {
            least[i] = leastOf(call[i + 1]);
            most[i] = mostOf(call[i + 1]);
        }
        if (call[0].equals("dealers")) {
            // One beast is refused, so the ends of what stands behind it are looked at by two.
            least[1] = most[1];
            most[1] = 0;
        }
        probe(trade, call, least);
        probe(trade, call, most);
        for (int i = 0; i < least.length; i++) {
            long from = leastOf(call[i + 1]);
            long to = mostOf(call[i + 1]);
            long[] ends = {from, to, from - 1, to + 1, Integer.MIN_VALUE, Integer.MAX_VALUE};
            for (long end : ends) {
                if (end == (int) end) {
                    probe(trade, call, changed(least, i, end));
                    probe(trade, call, changed(most, i, end));
                    probe(trade, call, changed(beyond(call, least, -1), i, end));
                    probe(trade, call, changed(beyond(call, most, 1), i, end));
                }
            }
        }
    }

    private static long[] changed(long[] values, int i, long to) {
        long[] other = values.clone();
        other[i] = to;
        return other;
    }

    /** Each value one beyond its end, where there is a value beyond it. */
    private static long[] beyond(String[] call, long[] ends, int by) {
        long[] other = ends.clone();
        for (int i = 0; i < ends.length; i++) {
            if (ends[i] + by == (int) (ends[i] + by)) {
                other[i] += by;
            }
        }
        return other;
    }

    private static Class<?> dueOf(String[] call, long[] values) {
        boolean fine = true;
        for (int i = 0; i < values.length; i++) {
            boolean within = values[i] >= leastOf(call[i + 1]) && values[i] <= mostOf(call[i + 1]);
            if (!within && (call[i + 1].equals("B") || call[i + 1].equals("G"))) {
                return NoSuchElementException.class;
            }
            fine &= within;
        }
        // Promise 28: "IllegalArgumentException: also one BEAST."
        fine &= !call[0].equals("dealers") || values[0] != values[1];
        return fine ? null : IllegalArgumentException.class;
    }

    private static void probe(String trade, String[] call, long[] values) throws ReflectiveOperationException {
        StripeTrade x = objectOf(trade);
        String before = Due.state(x);
        int fault = x.fault();
        Class<?> due = dueOf(call, values);
        StringBuilder what = new StringBuilder(call[0]);
        for (long v : values) {
            what.append(' ').append(v);
        }
        Class<?> got = thrownBy(x, call[0], values);
        Due.same(what + ": exception", due + "\n", got + "\n");
        Due.is(what + ": elements refused", due == NoSuchElementException.class ? 2 : 1, x.status(0));
        Due.is(what + ": arguments refused", due == IllegalArgumentException.class ? 2 : 1, x.status(1));
        boolean asks = !"trade law work image restore undo".contains(call[0]);
        if (due != null || asks) {
            Due.same(what + ": what stays", before, Due.state(x));
            Due.is(what + ": the tape", 20, x.count(1));
            Due.is(what + ": the fault", fault, x.fault());
        }
    }

    private static Class<?> thrownBy(StripeTrade x, String name, long[] values) throws ReflectiveOperationException {
        Class<?>[] types = new Class<?>[values.length];
        Object[] arguments = new Object[values.length];
        for (int i = 0; i < values.length; i++) {
            types[i] = int.class;
            arguments[i] = (int) values[i];
        }
        Method method = StripeTrade.class.getMethod(name, types);
        try {
            method.invoke(x, arguments);
            return null;
        } catch (InvocationTargetException e) {
            return e.getCause().getClass();
        }
    }
}
