import java.io.ByteArrayOutputStream;
import java.net.URL;
import java.net.URLClassLoader;
import java.nio.charset.StandardCharsets;
import java.nio.file.Files;
import java.nio.file.Path;
import java.util.List;
import java.util.regex.Matcher;
import java.util.regex.Pattern;
import javax.tools.ToolProvider;

/** What README.md says: its code blocks are compiled and run as they stand there, and its tables hold the whole face. */
public final class ReadmeTest {
    private static final Path PAGE = Path.of("README.md");
    private static final Pattern ANSWERED = Pattern.compile("(.*); // ([A-Za-z]+|-?[0-9]+)(:.*)?");

    private static int answers;

    private ReadmeTest() {
    }

    public static void main(String[] args) throws Exception {
        Due.sentence("README.md", "How to use it");
        tables();
        List<List<String>> blocks = Face.blocks(PAGE);
        Due.is("blocks of Java: a helper and a run", 2, blocks.size());
        run(source(blocks.get(0), blocks.get(1)));
        Due.is("answers told behind calls", 1, answers >= 30 ? 1 : 0);
        files();
        Due.end();
    }

    private static void tables() throws Exception {
        List<String> lines = Files.readAllLines(PAGE, StandardCharsets.UTF_8);
        List<String> methods = Face.methods();
        for (String method : methods) {
            long rows = lines.stream().filter(line -> line.startsWith("| `" + Face.call(method) + "` | ")).count();
            Due.is("rows of " + Face.call(method), 1, rows);
        }
        Due.is("rows", methods.size(), lines.stream().filter(line -> line.startsWith("| `")).count());
    }

    private static String source(List<String> helper, List<String> run) {
        StringBuilder s = new StringBuilder("public final class ReadmeRun {\n");
        for (String line : helper) {
            s.append(line).append('\n');
        }
        s.append("public static void run() {\n");
        for (String line : run) {
            s.append(checked(line)).append('\n');
        }
        return s.append("}\n}\n").toString();
    }

    /** A line of the run; where it tells an answer, a look at whether that is what comes. */
    private static String checked(String line) {
        Matcher m = ANSWERED.matcher(line);
        if (!m.matches()) {
            if (line.contains("//")) {
                throw new IllegalStateException("no answer is told by: " + line);
            }
            return line;
        }
        answers++;
        String what = "\"" + m.group(1).replace("\"", "'") + "\"";
        switch (m.group(2)) {
            case "NoSuchElementException":
                return "Due.refusedElement(" + what + ", () -> " + m.group(1) + ");";
            case "IllegalArgumentException":
                return "Due.refusedArgument(" + what + ", () -> " + m.group(1) + ");";
            case "true":
            case "false":
                return "Due.is(" + what + ", 1, " + m.group(1) + " == " + m.group(2) + " ? 1 : 0);";
            default:
                return "Due.is(" + what + ", " + m.group(2) + ", " + m.group(1) + ");";
        }
    }

    private static void run(String source) throws Exception {
        Path folder = Files.createTempDirectory("readme");
        Path file = folder.resolve("ReadmeRun.java");
        Path compiled = folder.resolve("ReadmeRun.class");
        try {
            Files.writeString(file, source);
            ByteArrayOutputStream said = new ByteArrayOutputStream();
            int exit = ToolProvider.getSystemJavaCompiler().run(null, said, said, "-d", folder.toString(), "-cp",
                    System.getProperty("java.class.path"), file.toString());
            Due.same("compiling the code blocks", "0\n", exit + "\n" + said);
            if (exit == 0) {
                try (URLClassLoader loader = new URLClassLoader(new URL[] {folder.toUri().toURL()})) {
                    loader.loadClass("ReadmeRun").getMethod("run").invoke(null);
                }
            }
        } finally {
            Files.deleteIfExists(compiled);
            Files.deleteIfExists(file);
            Files.deleteIfExists(folder);
        }
    }

    /** Files and tests that the page names are there. */
    private static void files() throws Exception {
        String page = Files.readString(PAGE, StandardCharsets.UTF_8);
        Matcher m = Pattern.compile("`([^` ]+/[^` ]+|[A-Z][A-Za-z]+Test)`").matcher(page);
        int named = 0;
        while (m.find()) {
            String name = m.group(1).endsWith("Test") ? "src/test/java/" + m.group(1) + ".java" : m.group(1);
            Due.is(name + " is there", 1, Files.exists(Path.of(name)) ? 1 : 0);
            named++;
        }
        Due.is("files are named", 1, named > 5 ? 1 : 0);
    }
}
