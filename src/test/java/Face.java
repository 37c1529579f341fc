import java.nio.charset.StandardCharsets;
import java.nio.file.Files;
import java.nio.file.Path;
import java.util.ArrayList;
import java.util.List;

/** The code block of the document's public face, as text; helps the tests. */
final class Face {
    private Face() {
    }

    /** The lines of the document's only block of Java. */
    static List<String> block() throws Exception {
        List<List<String>> blocks = blocks(Path.of("../shared/DOC.md"));
        if (blocks.size() != 1) {
            throw new IllegalStateException("the document has " + blocks.size() + " blocks of Java");
        }
        return blocks.get(0);
    }

    /** All blocks of Java of a page. */
    static List<List<String>> blocks(Path page) throws Exception {
        List<List<String>> blocks = new ArrayList<>();
        boolean inside = false;
        for (String line : Files.readAllLines(page, StandardCharsets.UTF_8)) {
            if (line.equals("```java")) {
                inside = true;
                blocks.add(new ArrayList<>());
            } else if (line.startsWith("```")) {
                inside = false;
            } else if (inside) {
                blocks.get(blocks.size() - 1).add(line);
            }
        }
        return blocks;
    }

    /** The declarations of the block's methods, each on one line without the ";". */
    static List<String> methods() throws Exception {
        List<String> methods = new ArrayList<>();
        for (String line : block()) {
            if (line.startsWith("    public ") && line.contains("(") && !line.contains(" StripeTrade(")) {
                methods.add(line.trim().replace(";", ""));
            }
        }
        return methods;
    }

    /** "told(what)" of "public int told(int what) throws IllegalArgumentException". */
    static String call(String method) {
        String[] words = method.substring(0, method.indexOf('(')).split(" ");
        String inside = method.substring(method.indexOf('(') + 1, method.indexOf(')'));
        return words[words.length - 1] + "(" + inside.replaceAll("(int|long|boolean) ", "") + ")";
    }
}
