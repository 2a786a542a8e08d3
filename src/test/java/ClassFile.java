import java.io.DataInputStream;
import java.io.IOException;
import java.util.ArrayList;
import java.util.List;
import java.util.Map;
import java.util.TreeMap;
import java.util.TreeSet;

/** What a compiled class calls, method by method, read from its file: so what is looked at is what runs. */
final class ClassFile {
    // Bytes that an instruction takes, by its number; tableswitch, lookupswitch and wide are told apart.
    private static final int[] LENGTHS = lengths();
    private static final int TABLESWITCH = 0xaa, LOOKUPSWITCH = 0xab, WIDE = 0xc4, IINC = 0x84;
    private static final int INVOKEVIRTUAL = 0xb6, INVOKEINTERFACE = 0xb9, INVOKEDYNAMIC = 0xba, ATHROW = 0xbf, MONITORENTER = 0xc2;

    /** By each method ("Class.name"), those that it calls, told likewise. */
    final Map<String, TreeSet<String>> calls = new TreeMap<>();
    /** What no method of the program may have: throws, handlers, locks, calls made up as it runs. */
    final List<String> barred = new ArrayList<>();

    private final String name;
    private final Object[] pool;
    private final int[][] pairs;

    ClassFile(Class<?> of) throws IOException {
        name = of.getName();
        try (DataInputStream in = new DataInputStream(of.getResourceAsStream("/" + name + ".class"))) {
            in.skipNBytes(8);
            int n = in.readUnsignedShort();
            pool = new Object[n];
            pairs = new int[n][];
            for (int i = 1; i < n; i++) i += readConstant(in, i);
            in.skipNBytes(6);
            in.skipNBytes(2L * in.readUnsignedShort());
            readMembers(in, false);
            readMembers(in, true);
        }
    }

    // How many places more than one it takes.
    private int readConstant(DataInputStream in, int i) throws IOException {
        int tag = in.readUnsignedByte();
        switch (tag) {
            case 1: pool[i] = in.readUTF(); return 0;
            case 3: case 4: in.skipNBytes(4); return 0;
            case 5: case 6: in.skipNBytes(8); return 1;
            case 7: case 8: case 16: case 19: case 20: pairs[i] = new int[] {in.readUnsignedShort()}; return 0;
            case 9: case 10: case 11: case 12: case 17: case 18: pairs[i] = new int[] {in.readUnsignedShort(), in.readUnsignedShort()}; return 0;
            case 15: in.skipNBytes(3); return 0;
            default: throw new IOException("a constant of sort " + tag);
        }
    }

    private void readMembers(DataInputStream in, boolean methods) throws IOException {
        for (int n = in.readUnsignedShort(); n > 0; n--) {
            in.skipNBytes(2);
            String member = name + "." + pool[in.readUnsignedShort()];
            in.skipNBytes(2);
            if (methods) calls.computeIfAbsent(member, m -> new TreeSet<>());
            for (int a = in.readUnsignedShort(); a > 0; a--) {
                boolean code = "Code".equals(pool[in.readUnsignedShort()]);
                int length = in.readInt();
                if (!code) {
                    in.skipNBytes(length);
                    continue;
                }
                in.skipNBytes(4);
                byte[] bytes = in.readNBytes(in.readInt());
                readCode(member, bytes);
                int handlers = in.readUnsignedShort();
                if (handlers > 0) barred.add(member + " catches");
                in.skipNBytes(length - 10L - bytes.length);
            }
        }
    }

    private void readCode(String member, byte[] code) {
        for (int i = 0; i < code.length; i += length(code, i)) {
            int op = code[i] & 255;
            if (op >= INVOKEVIRTUAL && op <= INVOKEINTERFACE) calls.get(member).add(called((code[i + 1] & 255) << 8 | code[i + 2] & 255));
            if (op == INVOKEDYNAMIC) barred.add(member + " makes a call up as it runs");
            if (op == ATHROW) barred.add(member + " throws");
            if (op == MONITORENTER) barred.add(member + " locks");
        }
    }

    private String called(int at) {
        String owner = (String) pool[pairs[pairs[at][0]][0]];
        return owner.replace('/', '.') + "." + pool[pairs[pairs[at][1]][0]];
    }

    private static int length(byte[] code, int i) {
        int op = code[i] & 255;
        int past = (i / 4 + 1) * 4;
        switch (op) {
            case TABLESWITCH: return past - i + 12 + 4 * (int4(code, past + 8) - int4(code, past + 4) + 1);
            case LOOKUPSWITCH: return past - i + 8 + 8 * int4(code, past + 4);
            case WIDE: return (code[i + 1] & 255) == IINC ? 6 : 4;
            default: return LENGTHS[op];
        }
    }

    private static int int4(byte[] code, int i) {
        return (code[i] & 255) << 24 | (code[i + 1] & 255) << 16 | (code[i + 2] & 255) << 8 | code[i + 3] & 255;
    }

    private static int[] lengths() {
        int[] of = new int[256];
        java.util.Arrays.fill(of, 1);
        int[][] spans = {{0x10, 0x10, 2}, {0x11, 0x11, 3}, {0x12, 0x12, 2}, {0x13, 0x14, 3}, {0x15, 0x19, 2}, {0x36, 0x3a, 2}, {0x84, 0x84, 3}, {0x99, 0xa8, 3},
            {0xa9, 0xa9, 2}, {0xb2, 0xb8, 3}, {0xb9, 0xba, 5}, {0xbb, 0xbb, 3}, {0xbc, 0xbc, 2}, {0xbd, 0xbd, 3}, {0xc0, 0xc1, 3}, {0xc5, 0xc5, 4}, {0xc6, 0xc7, 3}, {0xc8, 0xc9, 5}};
        for (int[] s : spans) for (int op = s[0]; op <= s[1]; op++) of[op] = s[2];
        return of;
    }
}
