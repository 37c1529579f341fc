import java.util.HashSet;
import java.util.LinkedHashMap;
import java.util.Map;
import java.util.Set;
import java.util.TreeSet;

/** Rules 4, 8 and 11 of LANGUAGE.md, by the compiled classes: what of the library is called, and how deep calls go. */
public final class CallsTest {
    private static final String[] LIBRARY = {
        "java/lang/String\\.(length\\(\\)I|charAt\\(I\\)C)",
        "java/lang/(Integer|Long|Math)\\.(?!.*Exact\\()[a-zA-Z]+\\([IJ]+\\)[IJ]",
        "java/lang/System\\.arraycopy\\(.*",
        "java/lang/Object\\.<init>\\(\\)V",
        "java/(lang/IllegalArgumentException|util/NoSuchElementException)\\.<init>\\(Ljava/lang/String;\\)V"};

    private static final Map<String, Set<String>> CALLS = new LinkedHashMap<>();

    private CallsTest() {
    }

    public static void main(String[] args) throws Exception {
        Due.sentence("LANGUAGE.md", "4");
        library("StripeTrade");
        for (Class<?> inside : StripeTrade.class.getDeclaredClasses()) {
            library(inside.getName());
        }
        Due.is("methods were read", 1, CALLS.size() > 100 ? 1 : 0);
        Due.sentence("LANGUAGE.md", "11: calls that are no recursion go at most eight deep");
        for (String method : CALLS.keySet()) {
            if (method.startsWith("StripeTrade.")) {
                int deep = deepest(method, new HashSet<>());
                Due.is(method + " is " + deep + " deep", 1, deep <= 8 ? 1 : 0);
            }
        }
        recursion();
        Due.end();
    }

    private static void library(String name) throws Exception {
        ClassFile file = new ClassFile(name);
        CALLS.putAll(file.calls);
        for (String named : file.named) {
            boolean fine = named.startsWith("StripeTrade");
            for (String allowed : LIBRARY) {
                fine |= named.matches(allowed);
            }
            Due.is(name + " may use " + named, 1, fine ? 1 : 0);
        }
    }

    /** The most calls that stand one in the other, each method counted once, however often it comes back to itself. */
    private static int deepest(String method, Set<String> open) {
        if (!CALLS.containsKey(method) || !open.add(method)) {
            return 0;
        }
        int most = 0;
        for (String called : CALLS.get(method)) {
            most = Math.max(most, deepest(called, open));
        }
        open.remove(method);
        return most + 1;
    }

    private static void recursion() {
        Due.sentence("LANGUAGE.md", "8: recursion carries its depth as an argument");
        Set<String> recursive = new TreeSet<>();
        for (String method : CALLS.keySet()) {
            for (String called : CALLS.get(method)) {
                if (reaches(called, method, new HashSet<>())) {
                    recursive.add(method.substring(method.indexOf('.') + 1, method.indexOf('(')));
                }
            }
        }
        Due.same("methods that come back to themselves", "[doSteps, largerCode, readGroup, readPair, readProduct, "
                + "readRounds, readStep, readSteps, readSum, readUnit]\n", recursive + "\n");
    }

    private static boolean reaches(String from, String to, Set<String> seen) {
        if (from.equals(to)) {
            return true;
        }
        if (!CALLS.containsKey(from) || !seen.add(from)) {
            return false;
        }
        for (String called : CALLS.get(from)) {
            if (reaches(called, to, seen)) {
                return true;
            }
        }
        return false;
    }
}
