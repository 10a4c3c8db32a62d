/** Promises 30 to 33: images, going on from them, refusals. */
public final class ImagesTest {
    private static final String QUAY = "quay 4 by 3;wall 3 2;lack a at 0 0 hue 1 high 0;lack b at 1 0 hue 1 high 0;has b;"
            + "folk f at 2 1 home 0 0;";
    private final Check check = new Check();

    public static void main(String[] args) {
        ImagesTest test = new ImagesTest();
        test.image();
        test.on();
        test.onWithAll();
        test.refused();
        test.limits();
        test.statuses();
        test.check.end();
    }

    private void image() {
        MissingLamps lamps = new MissingLamps();
        check.due("no image", lamps.octet(0), -1);
        check.isImage(lamps, 0, 0, 1);
        Tape.quay(lamps, QUAY);
        check.isImage(lamps, Tape.sealed(0, 0, 1, 0, 0, 0, 2, 1));
        lamps.nights(40);
        check.due("the latest image", lamps.octet(1), 0);
        check.isImage(lamps, Tape.sealed(0, 40, 1, 40, 0, 40, 2, 1));
        for (int k = 0; k < 6; k++) {
            lamps.nights(40);
        }
        lamps.lose(1);
        lamps.lead(0, 3, 0);
        check.isImage(lamps, Tape.sealed(1, 24, 1, 99, 1, 0, 3, 0));
    }

    private void on() {
        MissingLamps lamps = Tape.laid(QUAY);
        lamps.nights(3);
        lamps.lose(1);
        lamps.seed(77);
        check.due("on", Tape.on(lamps, Tape.sealed(2, 5, 0, 7, 1, 99, 3, 1)), true);
        check.due("the tape is gone", lamps.end(1), false);
        check.due("night", lamps.has(5), 517);
        check.due("a", lamps.thing(0, 4), 0);
        check.due("a's nights", lamps.thing(0, 5), 7);
        check.due("b", lamps.thing(1, 4), 1);
        check.due("b's nights", lamps.thing(1, 5), 99);
        check.isAt(lamps, 0, 3, 1);
        check.due("nothing is kept", lamps.has(9), 0);
        check.due("no act", lamps.has(11), 0);
        check.due("no undo", lamps.undo(), false);
        check.due("the seed stays", lamps.has(12), 77);
        check.due("nothing refused", lamps.status(5), 0);
        check.isImage(lamps, Tape.sealed(2, 5, 0, 7, 1, 99, 3, 1));
    }

    private void onWithAll() {
        StringBuilder text = new StringBuilder("quay 7 by 7;");
        for (int k = 0; k < 9; k++) {
            text.append("lack x").append((char) ('a' + k)).append(" at 0 0 hue 1 high 0;");
        }
        for (int k = 0; k < 6; k++) {
            text.append("folk y").append((char) ('a' + k)).append(" at 0 0 home 1 1;");
        }
        int[] bytes = new int[32];
        for (int k = 0; k < 9; k++) {
            bytes[2 + 2 * k] = k % 2;
            bytes[3 + 2 * k] = 10 + k;
        }
        for (int k = 0; k < 6; k++) {
            bytes[20 + 2 * k] = k;
            bytes[21 + 2 * k] = 6 - k;
        }
        MissingLamps lamps = Tape.laid(text.toString());
        check.due("on", Tape.on(lamps, Tape.sealed(bytes)), true);
        check.due("missing", lamps.has(6), 4);
        for (int k = 0; k < 6; k++) {
            check.isAt(lamps, k, k, 6 - k);
        }
        check.isImage(lamps, Tape.sealed(bytes));
        bytes[30] = 7;
        check.due("the last one's column", Tape.on(lamps, Tape.sealed(bytes)), false);
        bytes[30] = 6;
        bytes[31] = 7;
        check.due("the last one's row", Tape.on(lamps, Tape.sealed(bytes)), false);
    }

    private void refused() {
        MissingLamps lamps = Tape.laid(QUAY);
        lamps.lead(0, 0, 1);
        lamps.find(0);
        int[][] bad = {{}, {0, 0, 1}, Tape.sealed(0, 0, 1, 0, 0, 0), Tape.sealed(0, 0, 1, 0, 0, 0, 2, 1, 0),
            Tape.sealed(0, 0, 1, 0, 0, 0, 2, 1, 2, 1), {0, 0, 1, 0, 0, 0, 2, 1, 0}, Tape.sealed(3, 232, 1, 0, 0, 0, 2, 1),
            Tape.sealed(4, 0, 1, 0, 0, 0, 2, 1), Tape.sealed(0, 0, 2, 0, 0, 0, 2, 1), Tape.sealed(0, 0, 1, 0, 255, 0, 2, 1),
            Tape.sealed(0, 0, 1, 100, 0, 0, 2, 1), Tape.sealed(0, 0, 1, 0, 0, 255, 2, 1), Tape.sealed(0, 0, 1, 0, 0, 0, 4, 1),
            Tape.sealed(0, 0, 1, 0, 0, 0, 2, 3), Tape.sealed(0, 0, 1, 0, 0, 0, 3, 2), Tape.sealed(0, 0, 1, 0, 0, 0, 8, 0)};
        for (int k = 0; k < bad.length; k++) {
            check.due("bad image " + k, Tape.on(lamps, bad[k]), false);
            check.due("refused " + k, lamps.status(5), k + 1);
            check.due("the tape is gone", lamps.end(1), false);
        }
        check.isAt(lamps, 0, 0, 1);
        check.due("a stays", lamps.thing(0, 4), 0);
        check.due("acts stay", lamps.has(11), 2);
        check.due("kept stays", lamps.has(9), 1);
        MissingLamps none = new MissingLamps();
        check.due("no quay", Tape.on(none, 0, 0, 1), false);
        check.due("refused", none.status(5), 1);
    }

    private void limits() {
        MissingLamps lamps = Tape.laid(QUAY);
        check.due("night 999", Tape.on(lamps, Tape.sealed(3, 231, 1, 99, 1, 99, 0, 0)), true);
        check.due("night", lamps.has(5), 999);
        check.due("later now", lamps.later(0, 0, 0), 0);
        check.due("later", lamps.later(0, 1, 0), -1);
        check.due("home now", lamps.home(0), 0);
        check.due("losses now", lamps.losses(0, 0), 0);
        check.due("losses", lamps.losses(0, 1), -1);
        check.due("worst", lamps.worst(1, 0), -1);
        check.due("another quay's image", Tape.on(Tape.laid("quay 3 by 3;"), Tape.sealed(0, 0)), true);
    }

    private void statuses() {
        MissingLamps lamps = new MissingLamps();
        lamps.end(1);
        lamps.quay();
        lamps.quay();
        for (int k = 0; k < 3; k++) {
            lamps.nights(1);
        }
        lamps.lose(0);
        lamps.find(0);
        lamps.lead(0, 0, 0);
        lamps.lead(0, 0, 0);
        for (int k = 0; k < 5; k++) {
            lamps.undo();
        }
        lamps.seed(-1);
        lamps.seed(-2);
        lamps.meet();
        lamps.meet();
        lamps.on();
        lamps.on();
        for (int what = 0; what < 6; what++) {
            check.due("status " + what, lamps.status(what), what + 1);
        }
        check.due("status 6", lamps.status(6), -1);
        check.due("status -1", lamps.status(-1), -1);
        Tape.quay(lamps, QUAY);
        for (int what = 0; what < 6; what++) {
            check.due("status stays " + what, lamps.status(what), what + 1);
        }
    }
}
