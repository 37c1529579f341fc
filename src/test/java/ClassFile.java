import java.io.ByteArrayInputStream;
import java.io.DataInputStream;
import java.io.IOException;
import java.io.InputStream;
import java.util.LinkedHashMap;
import java.util.LinkedHashSet;
import java.util.Map;
import java.util.Set;

/** What a compiled class calls, read from its bytes; helps the tests. */
final class ClassFile {
    /** Of each method ("Owner.name(I)I") those that it calls. */
    final Map<String, Set<String>> calls = new LinkedHashMap<>();
    /** All methods, fields and classes of others that it names. */
    final Set<String> named = new LinkedHashSet<>();

    private final Object[] pool;
    private final int[] kinds;

    ClassFile(String name) throws IOException {
        byte[] bytes;
        try (InputStream in = ClassFile.class.getResourceAsStream("/" + name + ".class")) {
            bytes = in.readAllBytes();
        }
        DataInputStream data = new DataInputStream(new ByteArrayInputStream(bytes));
        data.skipBytes(8);
        int size = data.readUnsignedShort();
        pool = new Object[size];
        kinds = new int[size];
        for (int i = 1; i < size; i++) {
            kinds[i] = data.readUnsignedByte();
            pool[i] = constant(data, kinds[i]);
            // A long or a double takes two places.
            i += kinds[i] == 5 || kinds[i] == 6 ? 1 : 0;
        }
        for (int i = 1; i < size; i++) {
            if (kinds[i] >= 9 && kinds[i] <= 11) {
                named.add(reference(i));
            } else if (kinds[i] >= 15) {
                named.add("a constant of kind " + kinds[i]);
            }
        }
        data.skipBytes(6);
        data.skipBytes(2 * data.readUnsignedShort());
        members(data, name, false);
        members(data, name, true);
    }

    private static Object constant(DataInputStream data, int kind) throws IOException {
        switch (kind) {
            case 1:
                return data.readUTF();
            case 3:
            case 4:
                return data.readInt();
            case 5:
            case 6:
                return data.readLong();
            case 7:
            case 8:
            case 16:
            case 19:
            case 20:
                return new int[] {data.readUnsignedShort()};
            case 15:
                return new int[] {data.readUnsignedByte(), data.readUnsignedShort()};
            default:
                return new int[] {data.readUnsignedShort(), data.readUnsignedShort()};
        }
    }

    private String text(int i) {
        return (String) pool[i];
    }

    private String reference(int i) {
        int[] reference = (int[]) pool[i];
        int[] nameAndType = (int[]) pool[reference[1]];
        String type = text(nameAndType[1]);
        return text(((int[]) pool[reference[0]])[0]) + "." + text(nameAndType[0]) + (type.startsWith("(") ? "" : " ") + type;
    }

    private void members(DataInputStream data, String owner, boolean methods) throws IOException {
        for (int many = data.readUnsignedShort(); many > 0; many--) {
            data.skipBytes(2);
            String name = owner + "." + text(data.readUnsignedShort()) + text(data.readUnsignedShort());
            Set<String> called = new LinkedHashSet<>();
            for (int attributes = data.readUnsignedShort(); attributes > 0; attributes--) {
                boolean code = text(data.readUnsignedShort()).equals("Code");
                byte[] inside = new byte[data.readInt()];
                data.readFully(inside);
                if (code) {
                    readCode(inside, called);
                }
            }
            if (methods) {
                calls.put(name, called);
            }
        }
    }

    private static int number(byte[] bytes, int at, int width) {
        int value = 0;
        for (int i = 0; i < width; i++) {
            value = value << 8 | bytes[at + i] & 255;
        }
        return value;
    }

    private void readCode(byte[] bytes, Set<String> called) {
        int end = 8 + number(bytes, 4, 4);
        for (int at = 8; at < end; at += lengthAt(bytes, at)) {
            int op = bytes[at] & 255;
            // invokevirtual, invokespecial, invokestatic, invokeinterface
            if (op >= 182 && op <= 185) {
                called.add(reference(number(bytes, at + 1, 2)));
            }
        }
    }

    /** How many bytes an instruction takes, by the table of the machine's description. */
    private static int lengthAt(byte[] bytes, int at) {
        int op = bytes[at] & 255;
        if (op == 170 || op == 171) {
            int from = at + 1 + (3 - (at - 8) % 4);
            int cells = op == 170 ? 3 + number(bytes, from + 8, 4) - number(bytes, from + 4, 4) + 1
                    : 2 + 2 * number(bytes, from + 4, 4);
            return from + 4 * cells - at;
        }
        if (op == 196) {
            return (bytes[at + 1] & 255) == 132 ? 6 : 4;
        }
        if (op == 185 || op == 186 || op == 200 || op == 201) {
            return 5;
        }
        if (op == 197) {
            return 4;
        }
        if (op == 17 || op == 19 || op == 20 || op == 132 || op >= 153 && op <= 168 || op >= 178 && op <= 184 || op == 187
                || op == 189 || op == 192 || op == 193 || op == 198 || op == 199) {
            return 3;
        }
        return op == 16 || op == 18 || op >= 21 && op <= 25 || op >= 54 && op <= 58 || op == 169 || op == 188 ? 2 : 1;
    }
}
