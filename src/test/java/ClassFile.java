import java.io.DataInputStream;
import java.io.IOException;
import java.io.InputStream;
import java.util.ArrayList;
import java.util.List;
import java.util.Set;
import java.util.TreeSet;

/** What a compiled class has and calls, read from its bytes. */
final class ClassFile {
    static final int STATIC = 8;
    static final int FINAL = 16;

    static final class Member {
        int flags;
        String name;
        String type;
        final Set<String> calls = new TreeSet<>();
        final Set<Integer> codes = new TreeSet<>();
        int catches;

        boolean isStatic() {
            return (flags & STATIC) != 0;
        }
    }

    private static final int WIDE = 0xc4;
    private static final int WIDE_IINC = 0x84;
    private static final int TABLE_SWITCH = 0xaa;
    private static final int LOOKUP_SWITCH = 0xab;
    private static final int FIRST_INVOKE = 0xb6;
    private static final int LAST_INVOKE = 0xb9;
    /** Each row: the first instruction and the last one of so many bytes; all others have one. */
    private static final int[][] LENGTHS = {
        {0x10, 0x10, 2}, {0x11, 0x11, 3}, {0x12, 0x12, 2}, {0x13, 0x14, 3}, {0x15, 0x19, 2}, {0x36, 0x3a, 2},
        {0x84, 0x84, 3}, {0x99, 0xa8, 3}, {0xa9, 0xa9, 2}, {0xb2, 0xb8, 3}, {0xb9, 0xba, 5}, {0xbb, 0xbb, 3},
        {0xbc, 0xbc, 2}, {0xbd, 0xbd, 3}, {0xc0, 0xc1, 3}, {0xc5, 0xc5, 4}, {0xc6, 0xc7, 3}, {0xc8, 0xc9, 5}};

    final String name;
    final List<Member> fields = new ArrayList<>();
    final List<Member> methods = new ArrayList<>();
    private final DataInputStream in;
    private String[] texts;
    private int[][] pairs;

    static ClassFile of(Class<?> read) throws IOException {
        String file = read.getName() + ".class";
        try (InputStream bytes = ClassFile.class.getResourceAsStream("/" + file)) {
            if (bytes == null) {
                throw new IOException("there is no " + file);
            }
            return new ClassFile(new DataInputStream(bytes));
        }
    }

    private ClassFile(DataInputStream in) throws IOException {
        this.in = in;
        in.readInt();
        in.readInt();
        readPool();
        in.readUnsignedShort();
        name = texts[pairs[in.readUnsignedShort()][0]];
        in.readUnsignedShort();
        in.skipNBytes(2L * in.readUnsignedShort());
        readMembers(fields);
        readMembers(methods);
    }

    private void readPool() throws IOException {
        int size = in.readUnsignedShort();
        texts = new String[size];
        pairs = new int[size][2];
        for (int i = 1; i < size; i++) {
            int tag = in.readUnsignedByte();
            switch (tag) {
                case 1 -> texts[i] = in.readUTF();
                case 3, 4 -> in.readInt();
                // a long or a double has two places
                case 5, 6 -> {
                    in.readLong();
                    i++;
                }
                case 7, 8, 16, 19, 20 -> pairs[i][0] = in.readUnsignedShort();
                case 15 -> in.skipNBytes(3);
                default -> {
                    pairs[i][0] = in.readUnsignedShort();
                    pairs[i][1] = in.readUnsignedShort();
                }
            }
        }
    }

    private void readMembers(List<Member> into) throws IOException {
        int count = in.readUnsignedShort();
        for (int i = 0; i < count; i++) {
            Member member = new Member();
            member.flags = in.readUnsignedShort();
            member.name = texts[in.readUnsignedShort()];
            member.type = texts[in.readUnsignedShort()];
            int attributes = in.readUnsignedShort();
            for (int k = 0; k < attributes; k++) {
                String kind = texts[in.readUnsignedShort()];
                byte[] bytes = new byte[in.readInt()];
                in.readFully(bytes);
                if (kind.equals("Code")) {
                    readCode(member, bytes);
                }
            }
            into.add(member);
        }
    }

    private void readCode(Member method, byte[] bytes) {
        int start = 8;
        int end = start + whole(bytes, 4);
        int at = start;
        while (at < end) {
            int code = bytes[at] & 0xff;
            method.codes.add(code);
            if (code >= FIRST_INVOKE && code <= LAST_INVOKE) {
                method.calls.add(called(half(bytes, at + 1)));
            }
            at += length(bytes, at, start);
        }
        method.catches = half(bytes, end);
    }

    private String called(int reference) {
        int[] ofWhat = pairs[reference];
        return texts[pairs[ofWhat[0]][0]] + "." + texts[pairs[ofWhat[1]][0]];
    }

    private static int length(byte[] bytes, int at, int start) {
        int code = bytes[at] & 0xff;
        // the numbers of a switch begin at the next place that is a multiple of four
        int numbers = start + (at - start) / 4 * 4 + 4;
        if (code == TABLE_SWITCH) {
            return numbers + 12 + 4 * (whole(bytes, numbers + 8) - whole(bytes, numbers + 4) + 1) - at;
        }
        if (code == LOOKUP_SWITCH) {
            return numbers + 8 + 8 * whole(bytes, numbers + 4) - at;
        }
        if (code == WIDE) {
            return (bytes[at + 1] & 0xff) == WIDE_IINC ? 6 : 4;
        }
        for (int[] row : LENGTHS) {
            if (code >= row[0] && code <= row[1]) {
                return row[2];
            }
        }
        return 1;
    }

    private static int half(byte[] bytes, int at) {
        return (bytes[at] & 0xff) << 8 | bytes[at + 1] & 0xff;
    }

    private static int whole(byte[] bytes, int at) {
        return half(bytes, at) << 16 | half(bytes, at + 2);
    }
}
