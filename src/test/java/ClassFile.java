import java.io.DataInputStream;
import java.io.IOException;
import java.io.InputStream;
import java.util.ArrayList;
import java.util.LinkedHashMap;
import java.util.List;
import java.util.Map;

/** What a compiled class says of itself: its methods, and what each of them calls and uses. */
final class ClassFile {
    /** One call that stands in a method's code; 'virtually' if the object's own class decides. */
    record Call(boolean virtually, String owner, String name) { }

    private static final int VIRTUAL = 182;
    private static final int SPECIAL = 183;
    private static final int STATIC = 184;
    private static final int INTERFACE = 185;
    private static final int TABLE = 170;
    private static final int LOOKUP = 171;
    private static final int WIDE = 196;
    private static final int WIDE_ADD = 132;

    final String name;
    final String above;
    final Map<String, List<Call>> calls = new LinkedHashMap<>();
    final List<Integer> opcodes = new ArrayList<>();
    int handlers;

    private final DataInputStream in;
    private Object[] pool;

    private ClassFile(InputStream from) throws IOException {
        in = new DataInputStream(from);
        in.skipNBytes(8);
        readPool();
        in.skipNBytes(2);
        name = className(in.readUnsignedShort());
        above = className(in.readUnsignedShort());
        in.skipNBytes(2L * in.readUnsignedShort());
        readMembers(false);
        readMembers(true);
    }

    static ClassFile of(Class<?> type) throws IOException {
        String file = type.getName().replace('.', '/') + ".class";
        try (InputStream from = type.getClassLoader().getResourceAsStream(file)) {
            return new ClassFile(from);
        }
    }

    private void readPool() throws IOException {
        int n = in.readUnsignedShort();
        pool = new Object[n];
        for (int i = 1; i < n; i++) {
            int tag = in.readUnsignedByte();
            switch (tag) {
                case 1:
                    pool[i] = in.readUTF();
                    break;
                case 5:
                case 6:
                    // A long takes two places.
                    in.skipNBytes(8);
                    i++;
                    break;
                case 7:
                case 8:
                case 16:
                case 19:
                case 20:
                    pool[i] = new int[] {in.readUnsignedShort()};
                    break;
                case 15:
                    in.skipNBytes(3);
                    break;
                case 3:
                case 4:
                    in.skipNBytes(4);
                    break;
                default:
                    pool[i] = new int[] {in.readUnsignedShort(), in.readUnsignedShort()};
            }
        }
    }

    private int part(int i, int which) {
        return ((int[]) pool[i])[which];
    }

    private String className(int i) {
        return i == 0 ? "" : (String) pool[part(i, 0)];
    }

    private void readMembers(boolean methods) throws IOException {
        for (int n = in.readUnsignedShort(); n > 0; n--) {
            in.skipNBytes(2);
            String member = (String) pool[in.readUnsignedShort()];
            in.skipNBytes(2);
            if (methods) {
                // No method of the program bears another's name; constructors count as one.
                calls.putIfAbsent(member, new ArrayList<>());
            }
            for (int a = in.readUnsignedShort(); a > 0; a--) {
                String attribute = (String) pool[in.readUnsignedShort()];
                int length = in.readInt();
                if (attribute.equals("Code")) {
                    readCode(calls.get(member));
                } else {
                    in.skipNBytes(length);
                }
            }
        }
    }

    private void readCode(List<Call> into) throws IOException {
        in.skipNBytes(4);
        byte[] code = in.readNBytes(in.readInt());
        for (int at = 0; at < code.length; at += lengthAt(code, at)) {
            int op = code[at] & 255;
            opcodes.add(op);
            if (op >= VIRTUAL && op <= INTERFACE) {
                int method = two(code, at + 1);
                into.add(new Call(op == VIRTUAL || op == INTERFACE, className(part(method, 0)),
                    (String) pool[part(part(method, 1), 0)]));
            }
        }
        int caught = in.readUnsignedShort();
        handlers += caught;
        in.skipNBytes(8L * caught);
        for (int a = in.readUnsignedShort(); a > 0; a--) {
            in.skipNBytes(2);
            in.skipNBytes(in.readInt());
        }
    }

    private static int two(byte[] code, int at) {
        return (code[at] & 255) << 8 | code[at + 1] & 255;
    }

    private static int four(byte[] code, int at) {
        return two(code, at) << 16 | two(code, at + 2);
    }

    private static int lengthAt(byte[] code, int at) {
        int op = code[at] & 255;
        int table = (at / 4 + 1) * 4;
        switch (op) {
            case TABLE:
                return table + 12 + 4 * (four(code, table + 8) - four(code, table + 4) + 1) - at;
            case LOOKUP:
                return table + 8 + 8 * four(code, table + 4) - at;
            case WIDE:
                return (code[at + 1] & 255) == WIDE_ADD ? 6 : 4;
            default:
                return plainLength(op);
        }
    }

    /** By the machine's table of instructions: how many bytes follow each, and itself. */
    private static int plainLength(int op) {
        if (op == 185 || op == 186 || op == 200 || op == 201) {
            return 5;
        }
        if (op == 197) {
            return 4;
        }
        if (op == 17 || op == 19 || op == 20 || op == WIDE_ADD || op >= 153 && op <= 168
            || op >= 178 && op <= STATIC || op == 187 || op == 189 || op == 192 || op == 193
            || op == 198 || op == 199) {
            return 3;
        }
        boolean one = op == 16 || op == 18 || op >= 21 && op <= 25 || op >= 54 && op <= 58
            || op == 169 || op == 188;
        return one ? 2 : 1;
    }
}
