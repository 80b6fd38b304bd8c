import java.io.ByteArrayInputStream;
import java.io.DataInputStream;
import java.io.IOException;
import java.io.InputStream;
import java.util.ArrayList;
import java.util.List;

/** A compiled class, read just as far as the tests ask: its methods, and what stands in them one by one. */
final class ClassFile {
    /** At is the place in the code; what is the constant that is named (Class.member), or "". */
    record Order(int at, int code, String what) { }
    record Method(String name, int catches, List<Order> orders) { }

    private static final int SWITCH_BY_TABLE = 170;
    private static final int SWITCH_BY_LIST = 171;
    private static final int WIDE = 196;
    private static final int ADD_TO_LOCAL = 132;

    final String name;
    final List<Method> methods = new ArrayList<>();
    private final int[] tags;
    private final int[] firsts;
    private final int[] seconds;
    private final String[] texts;

    ClassFile(Class<?> type) throws IOException {
        name = type.getName();
        byte[] bytes;
        try (InputStream file = type.getResourceAsStream("/" + name + ".class")) {
            bytes = file.readAllBytes();
        }
        DataInputStream in = new DataInputStream(new ByteArrayInputStream(bytes));
        in.skipBytes(8);
        int many = in.readUnsignedShort();
        tags = new int[many];
        firsts = new int[many];
        seconds = new int[many];
        texts = new String[many];
        constants(in, many);
        in.skipBytes(6);
        in.skipBytes(2 * in.readUnsignedShort());
        members(in, false);
        members(in, true);
    }

    private void constants(DataInputStream in, int many) throws IOException {
        for (int i = 1; i < many; i++) {
            tags[i] = in.readUnsignedByte();
            switch (tags[i]) {
                case 1: texts[i] = in.readUTF(); break;
                case 3: case 4: in.skipBytes(4); break;
                // a long or a double takes two places
                case 5: case 6: in.skipBytes(8); i++; break;
                case 7: case 8: case 16: case 19: case 20: firsts[i] = in.readUnsignedShort(); break;
                case 15: in.skipBytes(3); break;
                default:
                    firsts[i] = in.readUnsignedShort();
                    seconds[i] = in.readUnsignedShort();
            }
        }
    }

    private void members(DataInputStream in, boolean areMethods) throws IOException {
        for (int i = in.readUnsignedShort(); i > 0; i--) {
            in.skipBytes(2);
            String member = texts[in.readUnsignedShort()];
            in.skipBytes(2);
            for (int a = in.readUnsignedShort(); a > 0; a--) {
                String attribute = texts[in.readUnsignedShort()];
                byte[] body = new byte[in.readInt()];
                in.readFully(body);
                if (areMethods && attribute.equals("Code")) {
                    methods.add(method(member, body));
                }
            }
        }
    }

    private Method method(String member, byte[] body) throws IOException {
        DataInputStream in = new DataInputStream(new ByteArrayInputStream(body));
        in.skipBytes(4);
        byte[] code = new byte[in.readInt()];
        in.readFully(code);
        int catches = in.readUnsignedShort();
        List<Order> orders = new ArrayList<>();
        for (int at = 0; at < code.length; at += length(code, at)) {
            int op = code[at] & 255;
            boolean names = op == 19 || op == 20 || op >= 178 && op <= 187 || op == 189 || op == 192 || op == 193 || op == 197;
            orders.add(new Order(at, op, names ? constant(word(code, at + 1)) : ""));
        }
        return new Method(name + "." + member, catches, orders);
    }

    private String constant(int i) {
        switch (tags[i]) {
            case 7: return texts[firsts[i]].replace('/', '.');
            case 9: case 10: case 11: return constant(firsts[i]) + "." + texts[firsts[seconds[i]]];
            default: return "";
        }
    }

    private static int word(byte[] code, int at) {
        return (code[at] & 255) << 8 | code[at + 1] & 255;
    }

    private static int number(byte[] code, int at) {
        return word(code, at) << 16 | word(code, at + 2);
    }

    private static int length(byte[] code, int at) {
        int op = code[at] & 255;
        int behindGap = (at / 4 + 1) * 4;
        if (op == SWITCH_BY_TABLE) {
            return behindGap + 12 + 4 * (number(code, behindGap + 8) - number(code, behindGap + 4) + 1) - at;
        }
        if (op == SWITCH_BY_LIST) {
            return behindGap + 8 + 8 * number(code, behindGap + 4) - at;
        }
        if (op == WIDE) {
            return (code[at + 1] & 255) == ADD_TO_LOCAL ? 6 : 4;
        }
        if (op == 16 || op == 18 || op >= 21 && op <= 25 || op >= 54 && op <= 58 || op == 169 || op == 188) {
            return 2;
        }
        if (op == 185 || op == 186 || op == 200 || op == 201) {
            return 5;
        }
        if (op == 197) {
            return 4;
        }
        boolean three = op == 17 || op == 19 || op == 20 || op == ADD_TO_LOCAL || op >= 153 && op <= 168
            || op >= 178 && op <= 184 || op == 187 || op == 189 || op == 192 || op == 193 || op == 198 || op == 199;
        return three ? 3 : 1;
    }
}
