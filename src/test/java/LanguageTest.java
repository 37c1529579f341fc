import java.lang.reflect.Constructor;
import java.lang.reflect.Field;
import java.lang.reflect.Method;
import java.lang.reflect.Modifier;
import java.nio.charset.StandardCharsets;
import java.nio.file.Files;
import java.nio.file.Path;
import java.util.Arrays;
import java.util.List;
import java.util.Set;
import java.util.TreeSet;

/** Those rules of LANGUAGE.md that can be seen from the text or the compiled class without much thought. */
public final class LanguageTest {
    private static final String[] FACE = {"int feed(IIIII)", "int trade(I)A", "int law(I)A", "int work(I)A",
        "int fault()", "int undo()", "int told(I)A", "int beast(II)NA", "int gate(II)NA", "int listed(II)NA",
        "int slips(II)A", "int near(II)N", "int fee(II)N", "int would(IIIIIIII)A", "boolean can(II)N",
        "int strokes(III)NA", "int twins(II)A", "int code(III)A", "int parents(II)A", "int herd(II)A", "int ask(II)A",
        "int cover(I)A", "int list(II)A", "int file(II)NA", "int filed(III)NA", "long fog(IIII)NA",
        "int dealers(III)NA", "int share(III)NA", "int taken(II)N", "int cheapest(II)NA", "int striped(I)A",
        "int oldest(I)A", "int richest(I)A", "int affords(II)N", "int years(IIIII)A", "int span(IIIIIII)A",
        "int image()", "int restore()", "int status(I)", "int count(I)"};
    private static final String[] FORBIDDEN = {"->", "::", " catch ", "try {", "finally", "synchronized", "assert ",
        "Object", "static {", "@", "protected", "System.out", "Math.random", "toString", "hashCode", "equals("};

    private LanguageTest() {
    }

    public static void main(String[] args) throws Exception {
        face();
        members();
        text();
        Due.end();
    }

    private static void face() {
        Set<String> due = new TreeSet<>(Arrays.asList(FACE));
        Set<String> got = new TreeSet<>();
        for (Method m : StripeTrade.class.getDeclaredMethods()) {
            if (Modifier.isPublic(m.getModifiers())) {
                StringBuilder s = new StringBuilder(m.getReturnType().getName() + " " + m.getName() + "(");
                for (Class<?> p : m.getParameterTypes()) {
                    s.append(p == int.class ? "I" : "?");
                }
                s.append(")");
                for (Class<?> e : m.getExceptionTypes()) {
                    s.append(e.getSimpleName().charAt(0) == 'N' ? "N" : e.getSimpleName().charAt(0) == 'I' ? "A" : "?");
                }
                got.add(s.toString());
            }
        }
        for (String s : due) {
            Due.is("the face has " + s, 1, got.contains(s) ? 1 : 0);
        }
        Due.is("the face has no more methods", due.size(), got.size());
        Due.is("public final", Modifier.PUBLIC | Modifier.FINAL, StripeTrade.class.getModifiers());
    }

    private static void members() {
        Set<String> names = new TreeSet<>();
        for (String s : FACE) {
            names.add(s.substring(s.indexOf(' ') + 1, s.indexOf('(')));
        }
        for (Field f : StripeTrade.class.getDeclaredFields()) {
            boolean open = f.getName().equals("NONE");
            Due.is("field " + f.getName() + " is private", open ? 0 : 1, Modifier.isPrivate(f.getModifiers()) ? 1 : 0);
        }
        for (Constructor<?> c : StripeTrade.class.getDeclaredConstructors()) {
            Due.is("the constructor's parameters", 0, c.getParameterCount());
        }
        for (Method m : StripeTrade.class.getDeclaredMethods()) {
            if (!Modifier.isPublic(m.getModifiers())) {
                own(m, names);
            }
        }
        Class<?>[] inside = StripeTrade.class.getDeclaredClasses();
        Due.is("some twelve classes", 1, inside.length <= 11 ? 1 : 0);
        for (Class<?> c : inside) {
            Due.is(c + " is static", 1, Modifier.isStatic(c.getModifiers()) ? 1 : 0);
            for (Method m : c.getDeclaredMethods()) {
                own(m, names);
            }
            fields(c);
        }
        fields(StripeTrade.class);
    }

    private static void own(Method m, Set<String> names) {
        Due.is(m + " is private", 1, Modifier.isPrivate(m.getModifiers()) ? 1 : 0);
        Due.is(m + " has no public name", 0, names.contains(m.getName()) ? 1 : 0);
        Due.is(m + " has seven parameters at most", 1, m.getParameterCount() <= 7 ? 1 : 0);
    }

    private static void fields(Class<?> c) {
        int many = 0;
        for (Field f : c.getDeclaredFields()) {
            many += Modifier.isStatic(f.getModifiers()) ? 0 : 1;
            boolean free = Modifier.isStatic(f.getModifiers()) && !Modifier.isFinal(f.getModifiers());
            Due.is(f + " is no static state", 0, free ? 1 : 0);
        }
        Due.is("fields of " + c, 1, many <= 20 ? 1 : 0);
    }

    private static void text() throws Exception {
        List<String> lines = Files.readAllLines(Path.of("src/main/java/StripeTrade.java"), StandardCharsets.US_ASCII);
        int start = 0;
        for (int i = 0; i < lines.size(); i++) {
            String line = lines.get(i);
            for (String word : FORBIDDEN) {
                Due.is("line " + (i + 1) + " with " + word, 0, line.contains(word) ? 1 : 0);
            }
            if (line.startsWith("import")) {
                Due.is("line " + (i + 1), 1, line.equals("import java.util.NoSuchElementException;") ? 1 : 0);
            }
            if (line.matches("( {4}| {8})(public|private) .*") && line.contains("(")) {
                start = i;
            }
            if (line.matches("( {4}| {8})}")) {
                Due.is("length of the method at line " + (start + 1), 1, i - start < 60 ? 1 : 0);
                start = i;
            }
            Due.is("length of line " + (i + 1), 1, line.length() <= 120 ? 1 : 0);
        }
    }
}
