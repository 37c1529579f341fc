/** Counts and prints the answers that are not due; helps the tests. */
final class Due {
    interface Call {
        long answer();
    }

    private static int wrong = 0;
    private static int asked = 0;

    private Due() {
    }

    static void is(String what, long want, long got) {
        asked++;
        if (want != got) {
            wrong++;
            System.out.println(what + " answered " + got + ", due is " + want);
        }
    }

    static void refusedArgument(String what, Call call) {
        refused(what, IllegalArgumentException.class, call);
    }

    static void refusedElement(String what, Call call) {
        refused(what, java.util.NoSuchElementException.class, call);
    }

    private static void refused(String what, Class<?> due, Call call) {
        asked++;
        String got;
        try {
            got = "answered " + call.answer();
        } catch (RuntimeException e) {
            if (e.getClass() == due) {
                return;
            }
            got = "threw " + e;
        }
        wrong++;
        System.out.println(what + " " + got + ", due is " + due.getSimpleName());
    }

    /** Puts a text on the tape, filled up with blanks to whole feeds, and answers its length. */
    static int feed(StripeTrade x, String text) {
        for (int at = 0; at < text.length(); at += 20) {
            int[] five = new int[5];
            for (int i = 0; i < 20; i++) {
                int sign = at + i < text.length() ? text.charAt(at + i) : ' ';
                five[i / 4] = five[i / 4] << 8 | sign;
            }
            x.feed(five[0], five[1], five[2], five[3], five[4]);
        }
        return text.length();
    }

    static int trade(StripeTrade x, String text) {
        return x.trade(feed(x, text));
    }

    static int law(StripeTrade x, String text) {
        return x.law(feed(x, text));
    }

    static int work(StripeTrade x, String text) {
        return x.work(feed(x, text));
    }

    static void end() {
        System.out.println(asked + " answers looked at, " + wrong + " wrong");
        if (wrong != 0) {
            System.exit(1);
        }
    }
}
