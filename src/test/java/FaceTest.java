import java.lang.reflect.Modifier;
import java.nio.charset.StandardCharsets;
import java.nio.file.Files;
import java.nio.file.Path;
import java.util.List;

/** The document's "The public face": each line of its code block stands in the program, and nothing more is open. */
public final class FaceTest {
    private FaceTest() {
    }

    public static void main(String[] args) throws Exception {
        Due.sentence("The public face", "the code block");
        String program = Files.readString(Path.of("src/main/java/StripeTrade.java"), StandardCharsets.US_ASCII)
                .replaceAll("\\s+", " ");
        for (String line : Face.block()) {
            Due.is(line, 1, program.contains(declared(line)) ? 1 : 0);
        }
        List<String> methods = Face.methods();
        Due.is("methods of the face", 40, methods.size());
        Due.is("open methods", methods.size(), StripeTrade.class.getMethods().length - Object.class.getMethods().length);
        Due.is("open constructors", 1, StripeTrade.class.getConstructors().length);
        Due.is("constructors", 1, StripeTrade.class.getDeclaredConstructors().length);
        Due.is("open fields", 1, StripeTrade.class.getFields().length);
        Due.is("open classes", 0, StripeTrade.class.getClasses().length);
        Due.is("NONE", -1, StripeTrade.class.getField("NONE").getInt(null));
        Due.is("NONE is a constant", Modifier.PUBLIC | Modifier.STATIC | Modifier.FINAL,
                StripeTrade.class.getField("NONE").getModifiers());
        Due.is("interfaces", 0, StripeTrade.class.getInterfaces().length);
        Due.is("a class of its own", 1, StripeTrade.class.getSuperclass() == Object.class ? 1 : 0);
        Due.is("without a package", 1, StripeTrade.class.getPackageName().isEmpty() ? 1 : 0);
        Due.end();
    }

    /** A line of the block as the program has it: with a body in place of the ";" of a method or constructor. */
    private static String declared(String line) {
        String trimmed = line.trim();
        return trimmed.startsWith("public ") && trimmed.contains("(") ? trimmed.replace(";", " {") : trimmed;
    }
}
