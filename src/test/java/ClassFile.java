import java.io.DataInputStream;
import java.io.IOException;
import java.io.InputStream;
import java.util.Map;
import java.util.Set;
import java.util.TreeMap;
import java.util.TreeSet;

/** A compiled class, read as far as it tells which methods call which. */
final class ClassFile {
    private static final int TAG_TEXT = 1;
    private static final int TAG_LONG = 5;
    private static final int TAG_DOUBLE = 6;
    private static final int TAG_CLASS = 7;
    private static final int TAG_FIELD = 9;
    private static final int TAG_METHOD = 10;
    private static final int TAG_INTERFACE_METHOD = 11;
    private static final int TAG_NAME = 12;
    private static final int TAG_DYNAMIC = 18;

    // What each constant is: a tag, and the text or the two numbers behind it.
    private int[] tags;
    private int[] firsts;
    private int[] seconds;
    private String[] texts;
    private String name;

    /** For each method of the class, as Class.method(parameters)result, those that it calls. */
    final Map<String, Set<String>> calls = new TreeMap<>();
    /** Fields and methods of other classes, as Class.name. */
    final Set<String> outside = new TreeSet<>();
    /** Whether something is made by the machine when it runs: lambdas, texts joined by +. */
    boolean isDynamic;
    boolean catches;

    ClassFile(Class<?> type) throws IOException {
        String file = type.getName() + ".class";
        try (InputStream bytes = type.getResourceAsStream(file); DataInputStream in = new DataInputStream(bytes)) {
            in.skipBytes(8);
            readConstants(in);
            in.skipBytes(2);
            name = className(in.readUnsignedShort());
            in.skipBytes(2);
            in.skipBytes(2 * in.readUnsignedShort());
            readMembers(in, false);
            readMembers(in, true);
        }
        for (int k = 1; k < tags.length; k++) {
            isDynamic |= tags[k] == TAG_DYNAMIC;
            boolean isMember = tags[k] == TAG_FIELD || tags[k] == TAG_METHOD || tags[k] == TAG_INTERFACE_METHOD;
            if (isMember && !isOwn(className(firsts[k]))) {
                outside.add(className(firsts[k]) + "." + texts[firsts[seconds[k]]]);
            }
        }
    }

    private static boolean isOwn(String className) {
        return className.equals("MissingLamps") || className.startsWith("MissingLamps$");
    }

    private void readConstants(DataInputStream in) throws IOException {
        int count = in.readUnsignedShort();
        tags = new int[count];
        firsts = new int[count];
        seconds = new int[count];
        texts = new String[count];
        for (int k = 1; k < count; k++) {
            tags[k] = in.readUnsignedByte();
            switch (tags[k]) {
                case TAG_TEXT -> texts[k] = in.readUTF();
                case 3, 4 -> in.skipBytes(4);
                case TAG_LONG, TAG_DOUBLE -> {
                    in.skipBytes(8);
                    k++;
                }
                case TAG_CLASS, 8, 16, 19, 20 -> firsts[k] = in.readUnsignedShort();
                case 15 -> in.skipBytes(3);
                case TAG_FIELD, TAG_METHOD, TAG_INTERFACE_METHOD, TAG_NAME, 17, TAG_DYNAMIC -> {
                    firsts[k] = in.readUnsignedShort();
                    seconds[k] = in.readUnsignedShort();
                }
                default -> throw new IOException("a constant of kind " + tags[k]);
            }
        }
    }

    private String className(int constant) {
        return texts[firsts[constant]];
    }

    private void readMembers(DataInputStream in, boolean areMethods) throws IOException {
        int count = in.readUnsignedShort();
        for (int k = 0; k < count; k++) {
            in.skipBytes(2);
            String member = name + "." + texts[in.readUnsignedShort()] + texts[in.readUnsignedShort()];
            Set<String> called = new TreeSet<>();
            int attributes = in.readUnsignedShort();
            for (int a = 0; a < attributes; a++) {
                String attribute = texts[in.readUnsignedShort()];
                byte[] body = new byte[in.readInt()];
                in.readFully(body);
                if (attribute.equals("Code")) {
                    readCode(body, called);
                }
            }
            if (areMethods) {
                calls.put(member, called);
            }
        }
    }

    private void readCode(byte[] body, Set<String> called) {
        int end = 8 + number(body, 4, 4);
        int at = 8;
        while (at < end) {
            int op = body[at] & 255;
            // invokevirtual, invokespecial, invokestatic, invokeinterface
            if (op >= 182 && op <= 185) {
                int method = number(body, at + 1, 2);
                if (isOwn(className(firsts[method]))) {
                    called.add(className(firsts[method]) + "." + texts[firsts[seconds[method]]] + texts[seconds[seconds[method]]]);
                }
            }
            at += length(body, at, op);
        }
        catches |= number(body, end, 2) > 0;
    }

    private static int number(byte[] body, int at, int bytes) {
        int number = 0;
        for (int k = 0; k < bytes; k++) {
            number = number << 8 | body[at + k] & 255;
        }
        return number;
    }

    /** How many bytes an instruction has. */
    private static int length(byte[] body, int at, int op) {
        if (op == 170 || op == 171) {
            // A switch: its numbers begin at the next place that is whole by four, counted from the code's begin.
            int first = at + 4 - (at - 8) % 4;
            int low = number(body, first + 4, 4);
            int count = op == 170 ? number(body, first + 8, 4) - low + 1 : 2 * low;
            return first + (op == 170 ? 12 : 8) + 4 * count - at;
        }
        if (op == 196) {
            return (body[at + 1] & 255) == 132 ? 6 : 4;
        }
        if (op == 185 || op == 186 || op == 200 || op == 201) {
            return 5;
        }
        if (op == 197) {
            return 4;
        }
        if (op == 16 || op == 18 || op >= 21 && op <= 25 || op >= 54 && op <= 58 || op == 169 || op == 188) {
            return 2;
        }
        boolean isThree = op == 17 || op == 19 || op == 20 || op == 132 || op >= 153 && op <= 168 || op >= 178 && op <= 184
                || op == 187 || op == 189 || op == 192 || op == 193 || op == 198 || op == 199;
        return isThree ? 3 : 1;
    }
}
