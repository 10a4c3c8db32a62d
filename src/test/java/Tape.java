import java.nio.charset.StandardCharsets;
import java.util.Arrays;

/** Puts texts and bytes on a tape. */
final class Tape {
    static final String START = "quay 3 by 3;";

    private Tape() {
    }

    static void text(MissingLamps lamps, String text) {
        bytes(lamps, text.getBytes(StandardCharsets.ISO_8859_1));
    }

    static void bytes(MissingLamps lamps, int... bytes) {
        byte[] all = new byte[bytes.length];
        for (int k = 0; k < bytes.length; k++) {
            all[k] = (byte) bytes[k];
        }
        bytes(lamps, all);
    }

    private static void bytes(MissingLamps lamps, byte[] all) {
        for (int k = 0; k < all.length; k += 20) {
            lamps.feed(word(all, k), word(all, k + 4), word(all, k + 8), word(all, k + 12), word(all, k + 16));
        }
        lamps.end(all.length);
    }

    /** The four bytes from a place on, blanks behind the last. */
    static int word(byte[] all, int from) {
        int word = 0;
        for (int k = from; k < from + 4; k++) {
            word = word << 8 | (k < all.length ? all[k] & 255 : 32);
        }
        return word;
    }

    static int quay(MissingLamps lamps, String text) {
        text(lamps, text);
        return lamps.quay();
    }

    static int meet(MissingLamps lamps, int... bytes) {
        bytes(lamps, bytes);
        return lamps.meet();
    }

    static boolean on(MissingLamps lamps, int... bytes) {
        bytes(lamps, bytes);
        return lamps.on();
    }

    static MissingLamps laid(String text) {
        MissingLamps lamps = new MissingLamps();
        if (quay(lamps, text) < 1) {
            throw new IllegalStateException("fault " + lamps.fault(0) + " at " + lamps.fault(1) + " of " + text);
        }
        return lamps;
    }

    /** Bytes with their check behind them. */
    static int[] sealed(int... bytes) {
        int[] all = Arrays.copyOf(bytes, bytes.length + 1);
        int c = 241;
        for (int one : bytes) {
            c = (5 * c + one) % 251;
        }
        all[bytes.length] = c;
        return all;
    }

    static int[] image(MissingLamps lamps) {
        int[] bytes = new int[lamps.image()];
        for (int k = 0; k < bytes.length; k++) {
            bytes[k] = lamps.octet(k);
        }
        return bytes;
    }

    /** A quay at a late night, all else as at first. */
    static MissingLamps late(String text, int night) {
        MissingLamps lamps = laid(text);
        int[] bytes = image(lamps);
        bytes[0] = night / 256;
        bytes[1] = night % 256;
        if (!on(lamps, sealed(Arrays.copyOf(bytes, bytes.length - 1)))) {
            throw new IllegalStateException("no image of " + text);
        }
        return lamps;
    }

    /** Things in the first cell, named by the letters from a on. */
    static String things(int count) {
        StringBuilder text = new StringBuilder();
        for (int k = 0; k < count; k++) {
            text.append("lack ").append((char) ('a' + k)).append(" at 0 0 hue 1 high 0;");
        }
        return text.toString();
    }

    /** Folk at home in the first cell, named by the letters from n on. */
    static String folk(int count) {
        StringBuilder text = new StringBuilder();
        for (int k = 0; k < count; k++) {
            text.append("folk ").append((char) ('n' + k)).append(" at 0 0 home 0 0;");
        }
        return text.toString();
    }
}
