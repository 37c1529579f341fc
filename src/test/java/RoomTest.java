import com.sun.management.ThreadMXBean;
import java.lang.management.ManagementFactory;
import java.lang.reflect.Array;
import java.lang.reflect.Field;
import java.lang.reflect.Modifier;
import java.util.IdentityHashMap;
import java.util.Map;

/** The room of one run: what an object holds, and that calls make nothing but the exceptions that they throw. */
public final class RoomTest {
    private static final ThreadMXBean THREADS = (ThreadMXBean) ManagementFactory.getThreadMXBean();

    private static final int[][] TRADE = bytes("beast 5 3;beast 7 1;beast 200 9;beast 9 0;beast 6 2;beast 77 40;"
            + "gate 1 10;gate 0 4;gate 3 0;list 0 4;list 0 255;list 1 7;list 2 0;list 2 77;purse 999;");
    private static final int[][] LAW = bytes("least[toll+gone*marks,most[(apart+1)*2,age%(passed+3)]]+number/9-gate");
    private static final int[][] WORK = bytes("again 3[pass 0 0;tar 1 4;again 2[pass 2 2;];];foal 0 1;foal 1 2;year;"
            + "wash 1;rub 0 0;pass 0 0;pass 5 2;");
    private static final int[][] BROKEN = bytes("again 3[pass 0 0;tar 1 9;];");

    /** Keeps what calls answer, so that no call can be left out. */
    private static long sum;

    private RoomTest() {
    }

    public static void main(String[] args) throws Exception {
        StripeTrade x = new StripeTrade();
        int[] room = roomOf(x);
        Due.is("objects and arrays of an object: " + room[0], 1, room[0] <= 100 ? 1 : 0);
        Due.is("fields and elements of an object: " + room[1], 1, room[1] <= 10000 ? 1 : 0);
        for (int i = 0; i < 3; i++) {
            allCalls(x);
        }
        // The machine itself may make something now and then, but not each time.
        long least = Long.MAX_VALUE;
        for (int i = 0; i < 20; i++) {
            long before = THREADS.getThreadAllocatedBytes(Thread.currentThread().getId());
            allCalls(x);
            long after = THREADS.getThreadAllocatedBytes(Thread.currentThread().getId());
            least = Math.min(least, after - before);
        }
        long before = THREADS.getThreadAllocatedBytes(Thread.currentThread().getId());
        long looking = THREADS.getThreadAllocatedBytes(Thread.currentThread().getId()) - before;
        Due.is("bytes that calls make", 0, least - Math.min(least, looking));
        int[] then = roomOf(x);
        Due.is("objects and arrays behind the calls", room[0], then[0]);
        Due.is("fields and elements behind the calls", room[1], then[1]);
        Due.is("calls answered", 1, sum != 0 ? 1 : 0);
        Due.end();
    }

    private static int[] roomOf(Object root) throws IllegalAccessException {
        Map<Object, Boolean> seen = new IdentityHashMap<>();
        int[] room = new int[2];
        count(root, seen, room);
        return room;
    }

    private static void count(Object o, Map<Object, Boolean> seen, int[] room) throws IllegalAccessException {
        if (o == null || seen.put(o, true) != null) {
            return;
        }
        room[0]++;
        if (o.getClass().isArray()) {
            room[1] += Array.getLength(o);
            for (int i = 0; !o.getClass().getComponentType().isPrimitive() && i < Array.getLength(o); i++) {
                count(Array.get(o, i), seen, room);
            }
            return;
        }
        for (Field f : o.getClass().getDeclaredFields()) {
            if (!Modifier.isStatic(f.getModifiers())) {
                room[1]++;
                f.setAccessible(true);
                if (!f.getType().isPrimitive()) {
                    count(f.get(o), seen, room);
                }
            }
        }
    }

    /** A text by fives of numbers, and its length. */
    private static int[][] bytes(String text) {
        int[][] feeds = new int[(text.length() + 19) / 20 + 1][5];
        for (int i = 0; i < 20 * (feeds.length - 1); i++) {
            int sign = i < text.length() ? text.charAt(i) : ' ';
            feeds[i / 20][i % 20 / 4] = feeds[i / 20][i % 20 / 4] << 8 | sign;
        }
        feeds[feeds.length - 1] = new int[] {text.length()};
        return feeds;
    }

    private static int put(StripeTrade x, int[][] feeds) {
        for (int i = 0; i < feeds.length - 1; i++) {
            sum += x.feed(feeds[i][0], feeds[i][1], feeds[i][2], feeds[i][3], feeds[i][4]);
        }
        return feeds[feeds.length - 1][0];
    }

    private static void allCalls(StripeTrade x) {
        sum += x.trade(put(x, TRADE)) + x.law(put(x, LAW)) + x.work(put(x, WORK)) + x.image() + x.work(put(x, BROKEN));
        for (int what = 0; what <= 8; what++) {
            sum += x.told(what) + x.status(what) + x.count(what);
        }
        for (int b = 0; b < 8; b++) {
            for (int g = 0; g < 3; g++) {
                sum += x.near(b, g) + x.fee(b, g) + (x.can(b, g) ? 1 : 0) + x.strokes(b, g, 1) + x.taken(b, g)
                        + x.affords(b, g) + x.fog(b, g, b, 0);
            }
            sum += x.beast(b, 5) + x.cheapest(b, 1) + x.striped(b) + x.dealers(b, 7 - b, 2) + x.twins(b, 1);
        }
        for (int g = 0; g < 3; g++) {
            sum += x.gate(g, 5) + x.listed(g, 1) + x.file(g, 255) + x.filed(g, 255, 4) + x.share(g, 7, 20);
        }
        sum += x.slips(1, 2) + x.would(1, 2, 3, 4, 5, 6, 7, 1) + x.code(4, 2, 1) + x.code(4, 1, 0) + x.parents(12, 1);
        sum += x.herd(12, 2) + x.ask(12, 1) + x.cover(31) + x.list(170, 1) + x.oldest(1) + x.richest(1) + x.fault();
        sum += x.years(7, 96, 9, 5, 3) + x.span(7, 20, 96, 3, 3, 2, 1) + x.undo() + x.restore() + x.undo();
    }
}
