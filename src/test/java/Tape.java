import java.nio.charset.StandardCharsets;

/** Puts texts and bytes on a tape. */
final class Tape {
    private Tape() {
    }

    static void text(MissingLamps lamps, String text) {
        bytes(lamps, text.getBytes(StandardCharsets.ISO_8859_1));
    }

    static void bytes(MissingLamps lamps, int... bytes) {
        byte[] all = new byte[bytes.length];
        for (int k = 0; k < bytes.length; k++) {
            all[k] = (byte) bytes[k];
        }
        bytes(lamps, all);
    }

    private static void bytes(MissingLamps lamps, byte[] all) {
        for (int k = 0; k < all.length; k += 20) {
            lamps.feed(word(all, k), word(all, k + 4), word(all, k + 8), word(all, k + 12), word(all, k + 16));
        }
        lamps.end(all.length);
    }

    /** The four bytes from a place on, blanks behind the last. */
    static int word(byte[] all, int from) {
        int word = 0;
        for (int k = from; k < from + 4; k++) {
            word = word << 8 | (k < all.length ? all[k] & 255 : 32);
        }
        return word;
    }

    static int quay(MissingLamps lamps, String text) {
        text(lamps, text);
        return lamps.quay();
    }

    static MissingLamps laid(String text) {
        MissingLamps lamps = new MissingLamps();
        if (quay(lamps, text) < 1) {
            throw new IllegalStateException("fault " + lamps.fault(0) + " at " + lamps.fault(1) + " of " + text);
        }
        return lamps;
    }

    /** A quay at a late night, all else as at first. */
    static MissingLamps late(String text, int night) {
        MissingLamps lamps = laid(text);
        int[] bytes = new int[lamps.image()];
        for (int k = 0; k < bytes.length; k++) {
            bytes[k] = lamps.octet(k);
        }
        bytes[0] = night / 256;
        bytes[1] = night % 256;
        int c = 241;
        for (int k = 0; k < bytes.length - 1; k++) {
            c = (5 * c + bytes[k]) % 251;
        }
        bytes[bytes.length - 1] = c;
        bytes(lamps, bytes);
        if (!lamps.on()) {
            throw new IllegalStateException("no image of " + text);
        }
        return lamps;
    }
}
