/** Counts and prints the answers that are not due; helps the tests, and what they compile (so some of it is public). */
public final class Due {
    public interface Call {
        long answer();
    }

    private static int wrong = 0;
    private static int asked = 0;
    private static String sentence = "";

    private Due() {
    }

    /** The words of the document which the next answers hold to; they are printed with a wrong one. */
    static void sentence(String where, String words) {
        sentence = where + " \"" + words + "\": ";
    }

    public static void is(String what, long want, long got) {
        asked++;
        if (want != got) {
            wrong++;
            System.out.println(sentence + what + " answered " + got + ", due is " + want);
        }
    }

    static void same(String what, String want, String got) {
        asked++;
        if (!want.equals(got)) {
            wrong++;
            System.out.println(sentence + what + " answered\n" + got + "due is\n" + want);
        }
    }

    public static void refusedArgument(String what, Call call) {
        refused(what, IllegalArgumentException.class, call);
    }

    public static void refusedElement(String what, Call call) {
        refused(what, java.util.NoSuchElementException.class, call);
    }

    private static void refused(String what, Class<?> due, Call call) {
        asked++;
        String got;
        try {
            got = "answered " + call.answer();
        } catch (RuntimeException e) {
            if (e.getClass() == due) {
                return;
            }
            got = "threw " + e;
        }
        wrong++;
        System.out.println(sentence + what + " " + got + ", due is " + due.getSimpleName());
    }

    /** Puts a text on the tape, filled up with blanks to whole feeds, and answers its length. */
    static int feed(StripeTrade x, String text) {
        for (int at = 0; at < text.length(); at += 20) {
            int[] five = new int[5];
            for (int i = 0; i < 20; i++) {
                int sign = at + i < text.length() ? text.charAt(at + i) : ' ';
                five[i / 4] = five[i / 4] << 8 | sign;
            }
            x.feed(five[0], five[1], five[2], five[3], five[4]);
        }
        return text.length();
    }

    static StripeTrade of(String trade) {
        StripeTrade x = new StripeTrade();
        trade(x, trade);
        return x;
    }

    static int trade(StripeTrade x, String text) {
        return x.trade(feed(x, text));
    }

    static int law(StripeTrade x, String text) {
        return x.law(feed(x, text));
    }

    static int work(StripeTrade x, String text) {
        return x.work(feed(x, text));
    }

    /** All that can be asked of what a fault or a refused call leaves: not the tape, not fault(), not status(). */
    static String state(StripeTrade x) {
        StringBuilder s = new StringBuilder("told");
        for (int what = 0; what <= 8; what++) {
            s.append(' ').append(x.told(what));
        }
        for (int b = 0; b < x.told(0); b++) {
            s.append("\nbeast ").append(b).append(':');
            for (int what = 0; what <= 5; what++) {
                s.append(' ').append(x.beast(b, what));
            }
        }
        for (int g = 0; g < x.told(1); g++) {
            s.append("\ngate ").append(g).append(':');
            for (int what = 0; what <= 5; what++) {
                s.append(' ').append(x.gate(g, what));
            }
            for (int k = 0; x.listed(g, k) != StripeTrade.NONE; k++) {
                s.append(" [").append(x.listed(g, k)).append(']');
            }
        }
        s.append("\nkept ").append(x.count(0)).append(' ').append(x.count(2)).append("\nlaw");
        s.append(' ').append(x.would(40, 8, 8, 400, 999, 999, 255, 4)).append(' ').append(x.would(7, 2, 3, 4, 5, 6, 8, 1));
        return s.append('\n').toString();
    }

    static void end() {
        System.out.println(asked + " answers looked at, " + wrong + " wrong");
        if (wrong != 0) {
            System.exit(1);
        }
    }
}
