import java.io.DataInputStream;
import java.io.IOException;
import java.io.InputStream;
import java.util.ArrayList;
import java.util.List;

/** A class as the compiler wrote it: of each method what it calls, makes and puts. */
final class ClassFile {
    /** What a method's code names, each as "owner.name:type" or as the name of a class. */
    static final class Code {
        final String name;
        final List<String> calls = new ArrayList<>();
        final List<String> made = new ArrayList<>();
        final List<String> staticsPut = new ArrayList<>();
        final List<String> casts = new ArrayList<>();
        final List<String> caught = new ArrayList<>();
        boolean isThrowing;
        boolean isRuledOut;

        Code(String name) {
            this.name = name;
        }
    }

    private static final int TABLE_SWITCH = 170;
    private static final int LOOKUP_SWITCH = 171;
    private static final int PUT_STATIC = 179;
    private static final int INVOKE_DYNAMIC = 186;
    private static final int NEW = 187;
    private static final int THROW = 191;
    private static final int CAST = 192;
    private static final int INSTANCE_OF = 193;
    private static final int MONITOR = 194;
    private static final int WIDE = 196;
    private static final int INCREASE = 132;
    // Each number of bytes with the last of the codes that have so many, from code 0 on.
    private static final int[] SIZES = {
        1, 15, 2, 16, 3, 17, 2, 18, 3, 20, 2, 25, 1, 53, 2, 58, 1, 131, 3, 132, 1, 152, 3, 168,
        2, 169, 0, 171, 1, 177, 3, 184, 5, 186, 3, 187, 2, 188, 3, 189, 1, 191, 3, 193, 1, 195,
        0, 196, 4, 197, 3, 199, 5, 201};

    final String name;
    final List<Code> methods = new ArrayList<>();
    private final int[] firsts;
    private final int[] seconds;
    private final String[] texts;

    private ClassFile(DataInputStream in) throws IOException {
        in.skipNBytes(8);
        int count = in.readUnsignedShort();
        firsts = new int[count];
        seconds = new int[count];
        texts = new String[count];
        readConstants(in, count);
        in.skipNBytes(2);
        name = texts[firsts[in.readUnsignedShort()]];
        in.skipNBytes(2);
        in.skipNBytes(2L * in.readUnsignedShort());
        readMembers(in, false);
        readMembers(in, true);
    }

    static ClassFile of(Class<?> type) throws IOException {
        String file = type.getName() + ".class";
        try (InputStream in = type.getResourceAsStream(file)) {
            return new ClassFile(new DataInputStream(in));
        }
    }

    private void readConstants(DataInputStream in, int count) throws IOException {
        for (int i = 1; i < count; i++) {
            int tag = in.readUnsignedByte();
            switch (tag) {
                case 1: texts[i] = in.readUTF(); break;
                case 3: case 4: in.skipNBytes(4); break;
                // A long and a double take two places.
                case 5: case 6: in.skipNBytes(8); i++; break;
                case 7: case 8: case 16: case 19: case 20:
                    firsts[i] = in.readUnsignedShort();
                    break;
                case 9: case 10: case 11: case 12: case 17: case 18:
                    firsts[i] = in.readUnsignedShort();
                    seconds[i] = in.readUnsignedShort();
                    break;
                case 15: in.skipNBytes(3); break;
                default: throw new IOException("constant " + tag);
            }
        }
    }

    private void readMembers(DataInputStream in, boolean isMethods) throws IOException {
        int count = in.readUnsignedShort();
        for (int i = 0; i < count; i++) {
            in.skipNBytes(2);
            String member = texts[in.readUnsignedShort()] + ":" + texts[in.readUnsignedShort()];
            Code code = new Code(name + "." + member);
            int attributes = in.readUnsignedShort();
            for (int j = 0; j < attributes; j++) {
                String attribute = texts[in.readUnsignedShort()];
                byte[] bytes = new byte[in.readInt()];
                in.readFully(bytes);
                if (attribute.equals("Code")) {
                    readCode(bytes, code);
                }
            }
            if (isMethods) {
                methods.add(code);
            }
        }
    }

    private void readCode(byte[] b, Code code) throws IOException {
        int begin = 8;
        int end = begin + intAt(b, 4);
        for (int at = begin; at < end; at += sizeAt(b, at, begin)) {
            int op = b[at] & 255;
            if (op >= 182 && op <= 185) {
                code.calls.add(memberAt(shortAt(b, at + 1)));
            }
            if (op == PUT_STATIC) {
                code.staticsPut.add(memberAt(shortAt(b, at + 1)));
            }
            if (op == NEW) {
                code.made.add(texts[firsts[shortAt(b, at + 1)]]);
            }
            if (op == CAST || op == INSTANCE_OF) {
                code.casts.add(texts[firsts[shortAt(b, at + 1)]]);
            }
            code.isThrowing |= op == THROW;
            code.isRuledOut |= op == INVOKE_DYNAMIC || op == MONITOR;
        }
        int handlers = shortAt(b, end);
        for (int i = 0; i < handlers; i++) {
            int type = shortAt(b, end + 2 + 8 * i + 6);
            code.caught.add(type == 0 ? "any" : texts[firsts[type]]);
        }
    }

    private String memberAt(int place) {
        int pair = seconds[place];
        return texts[firsts[firsts[place]]] + "." + texts[firsts[pair]] + ":" + texts[seconds[pair]];
    }

    private static int sizeAt(byte[] b, int at, int begin) throws IOException {
        int op = b[at] & 255;
        if (op == WIDE) {
            return (b[at + 1] & 255) == INCREASE ? 6 : 4;
        }
        if (op == TABLE_SWITCH || op == LOOKUP_SWITCH) {
            int first = at + 4 - (at - begin) % 4;
            int rows = op == LOOKUP_SWITCH ? 2 * intAt(b, first + 4)
                    : intAt(b, first + 8) - intAt(b, first + 4) + 2;
            return first + 8 + 4 * rows - at;
        }
        for (int i = 0; i < SIZES.length; i += 2) {
            if (op <= SIZES[i + 1]) {
                return SIZES[i];
            }
        }
        throw new IOException("code " + op);
    }

    private static int shortAt(byte[] b, int at) {
        return (b[at] & 255) << 8 | b[at + 1] & 255;
    }

    private static int intAt(byte[] b, int at) {
        return shortAt(b, at) << 16 | shortAt(b, at + 2);
    }
}
