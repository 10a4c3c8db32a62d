/** Promises 1 to 33: each sentence about a call that names an edge, in the document's order. */
public final class CallEdgesTest {
    private static final int LEAST = Integer.MIN_VALUE;
    private static final int MOST = Integer.MAX_VALUE;
    // Two things, one of them missing; two folk, one of them at home; a wall.
    private static final String QUAY = "quay 5 by 4;pace 1;wall 2 2;lack ab at 1 0 hue 3 high 4;lack cdefgh at 4 3 hue 2 high 5;"
            + "has cdefgh;folk i at 0 0 home 3 0;folk jk at 4 3 home 4 3;";
    private final Check check = new Check();

    public static void main(String[] args) {
        CallEdgesTest test = new CallEdgesTest();
        test.p01newObject();
        test.p02feed();
        test.p02feedBytes();
        test.p03end();
        test.p04quay();
        test.p04quayRefused();
        test.p04quayAfterQuay();
        test.p05fault();
        test.p06has();
        test.p07letter();
        test.p08cell();
        test.p09thing();
        test.p10folk();
        test.p11later();
        test.p12home();
        test.p13missing();
        test.p14losses();
        test.p15worst();
        test.p16cover();
        test.p17send();
        test.p18odds();
        test.p19meet();
        test.p20hues();
        test.p21tells();
        test.p22nights();
        test.p23chance();
        test.p24lose();
        test.p25find();
        test.p26lead();
        test.p27undo();
        test.p28seed();
        test.p29kept();
        test.p30image();
        test.p31octet();
        test.p32on();
        test.p32onRefused();
        test.p33status();
        test.questionsChangeNothing();
        test.check.end();
    }

    private void p01newObject() {
        check.of("1: No quay, nobody; the seed is 1");
        MissingLamps lamps = new MissingLamps();
        check.due("all", Told.all(lamps), "has 0 0 0 0 0 0 0 0 0 0 0 0 1");
        check.due("fault", lamps.fault(0), 0);
        check.due("place", lamps.fault(1), -1);
        check.due("refusals", Told.refusals(lamps), "0 0 0 0 0 0 ");
        check.due("letter", lamps.letter(0, 0, 0), -1);
        check.due("letter", lamps.letter(1, 0, 0), -1);
        check.due("cell", lamps.cell(0, 0, 0), -1);
        check.due("thing", lamps.thing(0, 0), -1);
        check.due("folk", lamps.folk(0, 0), -1);
        check.due("later", lamps.later(0, 0, 0), -1);
        check.due("home", lamps.home(0), -1);
        check.due("missing", lamps.missing(0, 0), -1);
        check.due("losses", lamps.losses(0, 0), -1);
        check.due("worst", lamps.worst(1, 0), -1);
        check.due("worst", lamps.worst(1, 1), -1);
        check.due("cover", lamps.cover(), 0);
        check.isSent(lamps, 0, 0);
        check.due("odds", lamps.odds(-1), -1);
        check.due("odds", lamps.odds(0), -1);
        check.due("hues", lamps.hues(0), -1);
        check.isTelling(lamps, 0, -1, -1, -1);
        check.due("kept", lamps.kept(0, 0), -1);
        check.due("octet", lamps.octet(0), -1);
        check.isImage(lamps, 0, 0, 1);
        check.due("the tape is empty", lamps.end(1), false);
    }

    private void p02feed() {
        check.of("2: how many there are; NONE, refused (0), if there would be more than 1600");
        MissingLamps lamps = new MissingLamps();
        for (int k = 1; k <= 80; k++) {
            check.due("feed", lamps.feed(0, -1, LEAST, MOST, k), 20 * k);
        }
        check.due("1620", lamps.feed(0, 0, 0, 0, 0), -1);
        check.due("refused", lamps.status(0), 1);
        check.due("all 1600 stay", lamps.end(1600), true);
        for (int size : new int[] {1599, 1590, 1581}) {
            lamps.end(size);
            check.due(size + " and 20", lamps.feed(0, 0, 0, 0, 0), -1);
            check.due("no byte has come", lamps.end(size + 1), false);
            check.due("none has gone", lamps.end(size), true);
        }
        check.due("refused", lamps.status(0), 7);
        lamps.end(1580);
        check.due("1600", lamps.feed(0, 0, 0, 0, 0), 1600);
        lamps.end(7);
        check.due("27", lamps.feed(0, 0, 0, 0, 0), 27);
        check.due("47", lamps.feed(0, 0, 0, 0, 0), 47);
    }

    private void p02feedBytes() {
        check.of("2: Twenty bytes come behind those on the tape, of each number the highest first");
        // Twenty bytes that are an image: each must stand where it was fed.
        MissingLamps lamps = Tape.laid("quay 7 by 7;" + Tape.things(3)
                + "folk n at 0 0 home 0 0;folk o at 0 0 home 0 0;folk p at 0 0 home 0 0;folk q at 0 0 home 0 0;");
        int[] bytes = Tape.sealed(3, 1, 1, 99, 0, 98, 1, 97, 6, 5, 4, 3, 2, 1, 0, 6);
        check.due("seventeen", bytes.length, 17);
        lamps.feed(0x03010163, 0x00620161, 0x06050403, 0x02010006, bytes[16] << 24 | 0xffffff);
        lamps.end(17);
        check.due("on", lamps.on(), true);
        check.isImage(lamps, bytes);
        // A text in two parts, the second behind what was left of the first.
        Tape.text(lamps, "quay 3 by 3;pace?");
        lamps.end(16);
        lamps.feed(0x20393b67, 0x616c6520, 0x373b2020, 0x20202020, 0x20202020);
        check.due("quay 3 by 3;pace 9;gale 7;", lamps.quay(), 3);
    }

    private void p03end() {
        check.of("3: The tape has its first n bytes alone: true");
        MissingLamps lamps = new MissingLamps();
        Tape.text(lamps, "quay 3 by 3;pace 1;gale 1;");
        check.due("the first 19", lamps.end(19), true);
        check.due("20 are not there", lamps.end(20), false);
        check.due("the first 19 again", lamps.end(19), true);
        check.due("two statements", lamps.quay(), 2);
        // What was cut off goes on neither with a number, nor with a word, nor with a sign.
        String[] cut = {"quay 3 by 37", "quay 3 by 3;pacex", "quay 3 by 3;"};
        int[][] faults = {{1, 11}, {1, 16}, {1, 11}};
        for (int k = 0; k < cut.length; k++) {
            Tape.text(lamps, cut[k]);
            lamps.end(cut[k].length() - 1);
            check.due("cut: " + cut[k], lamps.quay(), -1);
            check.due("its fault", lamps.fault(0), faults[k][0]);
            check.due("its place", lamps.fault(1), faults[k][1]);
        }
        check.of("3: false, refused (0), if it has not so many, or n is below 0");
        check.due("0 of none", lamps.end(0), true);
        check.due("1 of none", lamps.end(1), false);
        Tape.text(lamps, "quay 3 by 3;");
        int refused = lamps.status(0);
        for (int n : new int[] {-1, -12, LEAST, 13, 20, 1600, 1601, MOST}) {
            check.due("end " + n, lamps.end(n), false);
            refused++;
            check.due("refused", lamps.status(0), refused);
        }
        check.due("the tape stays", lamps.quay(), 1);
    }

    private void p04quay() {
        check.of("4: The tape (it goes) is THE QUAY: how many STATEMENTS");
        MissingLamps lamps = new MissingLamps();
        check.due("quay", Tape.quay(lamps, QUAY), 8);
        check.due("the tape is gone", lamps.end(1), false);
        check.due("no tape is no quay", lamps.quay(), -1);
        check.due("one statement", Tape.quay(lamps, "quay 3 by 3;"), 1);
        check.due("eighty", Tape.quay(lamps, "quay 3 by 3;" + "gale 0;".repeat(79)), 80);
        StringBuilder whole = new StringBuilder("quay 3 by 3;glows 1");
        while (whole.length() < 1597) {
            whole.append("+1");
        }
        whole.append(";  ");
        check.due("all 1600 bytes", Tape.quay(lamps, whole.substring(0, 1600)), 2);
        check.due("nothing refused but the empty tape", lamps.status(1), 1);
        fullTape();
        longTexts();
    }

    /** The tape's last byte is the text's last one, whatever it is. */
    private void fullTape() {
        String most = "quay 3 by 3;" + " ".repeat(1583);
        String[] ends = {"gale ", " gale", "zzzzz", "1    ", "    1", " 9999", "?    ", "    ?"};
        int[] places = {1600, 1600, 1595, 1595, 1599, 1596, 1595, 1599};
        for (int k = 0; k < ends.length; k++) {
            check.isFault(most + ends[k], 1, places[k]);
        }
        check.isFault("quay 3 by 3;gale " + " ".repeat(1579) + "0101", 4, 1596);
        check.isWhole("quay 3 by 3;gale " + " ".repeat(1578) + "0100;", 2);
    }

    /** Each text has the whole tape, however long those ahead of it were. */
    private void longTexts() {
        MissingLamps lamps = new MissingLamps();
        for (int k = 1; k <= 5; k++) {
            check.due("a long text", Tape.quay(lamps, "quay 3 by 3;lack a at 0 0 hue 1 high 0;glows 0" + "+1-1".repeat(380) + "+" + k + ";"), 3);
            check.due("its sum", lamps.thing(0, 6), k);
        }
    }

    private void p04quayRefused() {
        check.of("4: NONE, refused (1), with a FAULT (all stays)");
        MissingLamps lamps = Tape.laid(QUAY);
        lamps.nights(3);
        lamps.lose(1);
        Tape.meet(lamps, 0, 0, 2, 0);
        lamps.seed(99);
        String told = Told.all(lamps);
        String[] bad = {"", "quay 7 by 7;pace 9;gale 99;wall 0 0;lack z at 1 1 hue 9 high 9;has z;folk y at 1 1 home 1 1;glows 0;"
            + "finds all;loses all;?", "quay 7 by 7;gale 101;", "quay 7", "quay 3 by 3;has ab;",
            "quay 3 by 3;lack q at 0 0 hue 1 high 1;folk q"};
        for (int k = 0; k < bad.length; k++) {
            check.due("quay", Tape.quay(lamps, bad[k]), -1);
            check.due("refused", lamps.status(1), k + 1);
            check.due("all behind a fault", Told.all(lamps), told);
            check.due("the tape is gone", lamps.end(1), false);
        }
        check.due("found as ever", lamps.nights(1), 1);
        check.due("undo", lamps.undo(), true);
        check.due("undo", lamps.undo(), true);
        check.due("b", lamps.thing(1, 4), 0);
    }

    private void p04quayAfterQuay() {
        check.of("4: Without one all is as at first, nothing is KEPT or MET, no ACT can be undone; the seed stays");
        check.due("an empty quay", Told.all(Tape.laid("quay 3 by 4;")), "has 3 4 0 0 0 0 0 0 0 0 0 0 1");
        // All that a text can leave out was told by the texts ahead of it.
        String full = "quay 7 by 7;pace 9;gale 100;wall 6 6;wall 5 5;" + Tape.things(9) + "has a;has b;has c;has d;has e;has f;"
                + Tape.folk(6) + "glows 9;finds age=3;loses age=2;";
        String plain = "quay 4 by 3;lack z at 0 0 hue 2 high 1;folk y at 0 0 home 3 0;folk x at 1 0 home 2 0;";
        MissingLamps fresh = Tape.laid(plain);
        String first = Told.all(fresh);
        MissingLamps lamps = Tape.laid(full);
        for (int k = 0; k < 4; k++) {
            lamps.nights(k + 1);
            lamps.find(0);
            lamps.lose(0);
            Tape.meet(lamps, 0, 0, 0, 0);
            // The texts come twice each, with and without a refused one between.
            if (k > 1) {
                Tape.quay(lamps, full + "?");
            }
            check.due("plain", Tape.quay(lamps, plain), 4);
            check.due("all is as at first", Told.all(lamps), first);
            check.due("no act", lamps.undo(), false);
            check.due("kept", lamps.kept(0, 0), -1);
            check.due("no gale", lamps.odds(0), 0);
            check.due("no gale", lamps.odds(1), 100);
            check.due("the pace", lamps.later(1, 1, 0), 2);
            check.due("he who stays finds it at once", lamps.nights(3), 1);
            check.due("nights", lamps.thing(0, 5), 2);
            check.due("full", Tape.quay(lamps, full), 29);
            check.due("missing", lamps.has(6), 3);
            check.due("walls", lamps.has(2), 2);
            check.due("nights", lamps.thing(0, 5), 0);
        }
        lamps.seed(77);
        Tape.quay(lamps, plain);
        check.due("the seed", lamps.has(12), 77);
        lamps.chance(1);
        long drawn = (1103515245L * 77 + 12345) % 2147483648L;
        check.due("drawn once", lamps.has(12), drawn);
        Tape.quay(lamps, plain);
        check.due("the seed stays", lamps.has(12), drawn);
    }

    private void p05fault() {
        check.of("5: Of the latest quay(): its FAULT (0 without, and ahead of any), its place (NONE without)");
        MissingLamps lamps = new MissingLamps();
        String[] texts = {"quay 3 by 3;", "quay 3 by 3;pace 0;", "quay 3 by 3;pace 1;", "", "quay 3 by 3;has z;", "quay 4 by 4;"};
        int[][] due = {{0, -1}, {4, 17}, {0, -1}, {1, 0}, {3, 16}, {0, -1}};
        check.due("ahead of any", lamps.fault(0), 0);
        check.due("ahead of any", lamps.fault(1), -1);
        for (int k = 0; k < texts.length; k++) {
            Tape.quay(lamps, texts[k]);
            for (int what = 0; what < 2; what++) {
                check.due("fault " + what + " of " + texts[k], lamps.fault(what), due[k][what]);
            }
            // Other calls are no quay().
            Tape.meet(lamps, 1);
            Tape.on(lamps, 1);
            check.due("fault stays", lamps.fault(0), due[k][0]);
        }
        check.of("5: NONE for another what");
        Tape.quay(lamps, "?");
        for (int what : new int[] {LEAST, -2, -1, 2, 3, MOST}) {
            check.due("fault " + what, lamps.fault(what), -1);
        }
    }

    private void p06has() {
        check.of("6: How many there are");
        MissingLamps lamps = Tape.laid(QUAY + "finds not all;");
        lamps.nights(1);
        lamps.lose(1);
        lamps.lead(0, 3, 0);
        lamps.seed(5);
        Tape.meet(lamps, 0, 0, 0, 0, 0, 1, 0, 0);
        int lit = 0;
        for (int k = 0; k < 20; k++) {
            boolean first = Math.abs(k % 5 - 1) + k / 5 <= 3;
            boolean second = 4 - k % 5 + 3 - k / 5 <= 2;
            boolean wall = k % 5 == 2 && k / 5 == 2;
            lit += (first || second) && !wall ? 1 : 0;
        }
        int[] due = {5, 4, 1, 2, 2, 1, 2, lit, 2, 1, 2, 3, 5};
        for (int what = 0; what < due.length; what++) {
            check.due("has " + what, lamps.has(what), due[what]);
        }
        check.of("6: NONE for others");
        for (int what : new int[] {LEAST, -2, -1, 13, 14, MOST}) {
            check.due("has " + what, lamps.has(what), -1);
        }
    }

    private void p07letter() {
        check.of("7: Letter k (0 .. 5): 1 .. 26; 0 behind it");
        MissingLamps lamps = Tape.laid(QUAY);
        int[][] due = {{1, 2, 0, 0, 0, 0}, {3, 4, 5, 6, 7, 8}, {9, 0, 0, 0, 0, 0}, {10, 11, 0, 0, 0, 0}};
        for (int which = 0; which < 4; which++) {
            for (int k = 0; k < 6; k++) {
                check.due("letter " + which + " " + k, lamps.letter(which / 2, which % 2, k), due[which][k]);
            }
        }
        StringBuilder text = new StringBuilder("quay 3 by 3;");
        for (char c = 'a'; c <= 'i'; c++) {
            text.append("lack z").append(c).append((char) (c + 17)).append(" at 0 0 hue 1 high 0;");
        }
        MissingLamps many = Tape.laid(text.toString());
        for (int t = 0; t < 9; t++) {
            check.due("z", many.letter(0, t, 0), 26);
            check.due("a to i", many.letter(0, t, 1), t + 1);
            check.due("r to z", many.letter(0, t, 2), t + 18);
        }
        check.of("7: NONE when there is none such");
        for (int bad : new int[] {LEAST, -2, -1, 2, 3, 9, MOST}) {
            check.due("kind " + bad, lamps.letter(bad, 0, 0), -1);
            check.due("thing " + bad, lamps.letter(0, bad, 0), -1);
            check.due("folk " + bad, lamps.letter(1, bad, 0), -1);
        }
        for (int k : new int[] {LEAST, -1, 6, 7, 12, MOST}) {
            check.due("letter " + k, lamps.letter(0, 1, k), -1);
            check.due("letter " + k, lamps.letter(1, 1, k), -1);
        }
    }

    private void p08cell() {
        check.of("8: 0 whether there is a wall, 1 whether LIT now, 2 how many LANTERNS light it now");
        MissingLamps lamps = Tape.laid(QUAY + "lack z at 1 0 hue 1 high 0;");
        int[][] cells = {{2, 2, 1, 0, 0}, {1, 0, 0, 1, 2}, {1, 1, 0, 1, 2}, {1, 3, 0, 1, 1}, {4, 0, 0, 1, 1}, {4, 1, 0, 0, 0}};
        for (int[] one : cells) {
            for (int what = 0; what < 3; what++) {
                check.due("cell " + one[0] + " " + one[1] + " " + what, lamps.cell(one[0], one[1], what), one[2 + what]);
            }
        }
        lamps.find(0);
        check.due("now", lamps.cell(1, 1, 2), 1);
        check.due("now", lamps.cell(1, 3, 1), 0);
        MissingLamps nine = Tape.laid("quay 3 by 3;" + Tape.things(9));
        check.due("nine lanterns", nine.cell(0, 0, 2), 9);
        check.due("nine lanterns", nine.cell(0, 1, 2), 9);
        check.due("none", nine.cell(1, 1, 2), 0);
        check.of("8: NONE when there is none such, or for others");
        for (int bad : new int[] {LEAST, -1, 5, 7, 8, 9, MOST}) {
            for (int what = 0; what < 3; what++) {
                check.due("column " + bad, lamps.cell(bad, 1, what), -1);
                check.due("row " + bad, lamps.cell(1, bad, what), -1);
            }
        }
        check.due("row 4", lamps.cell(0, 4, 0), -1);
        check.due("row 3", lamps.cell(4, 3, 0), 0);
        for (int what : new int[] {LEAST, -1, 3, 4, MOST}) {
            check.due("what " + what, lamps.cell(0, 0, what), -1);
        }
    }

    private void p09thing() {
        check.of("9: Of a THING");
        MissingLamps lamps = Tape.laid(QUAY);
        lamps.nights(2);
        int[][] due = {{1, 0, 3, 4, 0, 1, -1}, {4, 3, 2, 5, 0, 2, -1}};
        // The first of the folk came by: it was found in the first night.
        for (int t = 0; t < 2; t++) {
            for (int what = 0; what < 7; what++) {
                check.due("thing " + t + " " + what, lamps.thing(t, what), due[t][what]);
            }
        }
        lamps.lose(1);
        check.due("missing", lamps.thing(1, 4), 1);
        check.due("for 0 nights", lamps.thing(1, 5), 0);
        check.due("how far", lamps.thing(1, 6), 2);
        check.of("9: NONE when there is none such, or for others");
        for (int bad : new int[] {LEAST, -1, 2, 3, 9, MOST}) {
            for (int what = 0; what < 7; what++) {
                check.due("thing " + bad, lamps.thing(bad, what), -1);
            }
        }
        for (int what : new int[] {LEAST, -1, 7, 8, MOST}) {
            check.due("what " + what, lamps.thing(1, what), -1);
        }
    }

    private void p10folk() {
        check.of("10: Of one of the FOLK");
        MissingLamps lamps = Tape.laid(QUAY);
        int[][] due = {{0, 0, 3, 0, 3}, {4, 3, 4, 3, 0}};
        for (int f = 0; f < 2; f++) {
            for (int what = 0; what < 5; what++) {
                check.due("folk " + f + " " + what, lamps.folk(f, what), due[f][what]);
            }
        }
        lamps.find(0);
        check.due("NONE without a road", lamps.folk(0, 4), -1);
        check.due("none at home", lamps.folk(1, 4), 0);
        check.of("10: NONE when there is none such, or for others");
        for (int bad : new int[] {LEAST, -1, 2, 3, 6, MOST}) {
            for (int what = 0; what < 5; what++) {
                check.due("folk " + bad, lamps.folk(bad, what), -1);
            }
        }
        for (int what : new int[] {LEAST, -1, 5, 6, MOST}) {
            check.due("what " + what, lamps.folk(1, what), -1);
        }
    }

    private void p11later() {
        check.of("11: behind n NIGHTS AHEAD (0 .. 40): 0 column, 1 row");
        MissingLamps lamps = Tape.laid(QUAY + "finds not all;");
        check.willBeAt(lamps, 0, 0, 0, 0);
        check.willBeAt(lamps, 0, 2, 2, 0);
        check.willBeAt(lamps, 0, 40, 3, 0);
        check.willBeAt(lamps, 1, 0, 4, 3);
        check.willBeAt(lamps, 1, 40, 4, 3);
        check.of("11: NONE when there is none such, n can't be, or for others");
        for (int what = 0; what < 2; what++) {
            for (int bad : new int[] {LEAST, -1, 2, 6, MOST}) {
                check.due("folk " + bad, lamps.later(bad, 0, what), -1);
            }
            for (int n : new int[] {LEAST, -1, 41, 42, MOST}) {
                check.due("n " + n, lamps.later(0, n, what), -1);
            }
        }
        for (int what : new int[] {LEAST, -1, 2, 3, MOST}) {
            check.due("what " + what, lamps.later(0, 1, what), -1);
        }
    }

    private void p12home() {
        check.of("12: Behind how many NIGHTS AHEAD (0: now; 40 at most) one of the FOLK is at home");
        MissingLamps lamps = Tape.laid(QUAY + "finds not all;");
        check.due("home", lamps.home(0), 3);
        check.due("now", lamps.home(1), 0);
        lamps.nights(3);
        check.due("now", lamps.home(0), 0);
        check.of("12: NONE when he is not, or there is none such");
        check.due("never", Tape.laid("quay 3 by 3;folk f at 0 0 home 0 1;").home(0), -1);
        for (int bad : new int[] {LEAST, -1, 2, 6, MOST}) {
            check.due("folk " + bad, lamps.home(bad), -1);
        }
        check.due("now, in the last night", Tape.late("quay 3 by 3;folk f at 0 0 home 0 0;", 999).home(0), 0);
    }

    private void p13missing() {
        check.of("13: Whether a THING is MISSING behind n NIGHTS AHEAD (0 .. 40)");
        MissingLamps lamps = Tape.laid(QUAY + "loses age=39;");
        int[][] due = {{0, 0, 1}, {0, 1, 0}, {0, 40, 0}, {1, 0, 0}, {1, 39, 0}, {1, 40, 1}};
        for (int[] one : due) {
            check.due("missing " + one[0] + " " + one[1], lamps.missing(one[0], one[1]), one[2]);
        }
        check.of("13: NONE when there is none such, or n can't be");
        for (int bad : new int[] {LEAST, -1, 2, 9, MOST}) {
            check.due("thing " + bad, lamps.missing(bad, 0), -1);
        }
        for (int n : new int[] {LEAST, -1, 41, 42, MOST}) {
            check.due("n " + n, lamps.missing(0, n), -1);
        }
    }

    private void p14losses() {
        check.of("14: LOSSES for one of the FOLK, n NIGHTS (0 .. 20), as bits; NONE without a set");
        // Fourteen steps to go, and eighteen, one a night, by one lantern.
        MissingLamps lamps = Tape.laid("quay 7 by 7;pace 1;finds not all;wall 0 1;wall 1 1;wall 2 1;wall 3 1;wall 4 1;wall 5 1;"
                + "lack a at 3 0 hue 9 high 0;has a;folk f at 0 0 home 0 2;folk g at 0 0 home 0 0;folk h at 0 0 home 0 6;"
                + "wall 6 3;wall 5 3;wall 4 3;wall 3 3;wall 2 3;wall 1 3;");
        check.due("14 steps", lamps.losses(0, 14), 1);
        check.due("13 nights", lamps.losses(0, 13), -1);
        check.due("18 steps, 18 nights", lamps.losses(2, 18), 1);
        check.due("18 steps, 17 nights", lamps.losses(2, 17), -1);
        check.due("20 nights", lamps.losses(2, 20), 1);
        check.due("at home, 0 nights", lamps.losses(1, 0), 0);
        check.due("at home, 20 nights", lamps.losses(1, 20), 0);
        check.due("not at home, 0 nights", lamps.losses(0, 0), -1);
        check.of("14: NONE when there is none such, or n can't be");
        for (int bad : new int[] {LEAST, -1, 3, 6, MOST}) {
            check.due("folk " + bad, lamps.losses(bad, 20), -1);
        }
        for (int n : new int[] {LEAST, -1, 21, 22, 40, MOST}) {
            check.due("n " + n, lamps.losses(1, n), -1);
        }
        MissingLamps late = Tape.late("quay 3 by 3;folk f at 0 0 home 0 0;", 980);
        check.due("up to 999", late.losses(0, 19), 0);
        check.due("beyond 999", late.losses(0, 20), -1);
    }

    private void p15worst() {
        check.of("15: WORST, n NIGHTS (1 .. 20): the THING (what 0), how many FOLK are at home then (1)");
        MissingLamps lamps = Tape.laid("quay 7 by 4;pace 1;finds not all;lack a at 0 0 hue 1 high 0;lack b at 3 0 hue 9 high 0;"
                + "folk f at 0 0 home 6 0;folk g at 1 1 home 1 1;");
        check.due("one", lamps.worst(1, 0), 0);
        check.due("one is home", lamps.worst(1, 1), 1);
        check.due("six", lamps.worst(6, 0), 1);
        check.due("one is home", lamps.worst(6, 1), 1);
        check.due("twenty", lamps.worst(20, 0), 1);
        check.due("one is home", lamps.worst(20, 1), 1);
        lamps.find(0);
        check.due("b alone", lamps.worst(1, 0), 1);
        check.of("15: NONE without one, when n can't be, or for others");
        for (int what = 0; what < 2; what++) {
            for (int n : new int[] {LEAST, -1, 0, 21, 22, MOST}) {
                check.due("n " + n, lamps.worst(n, what), -1);
            }
        }
        for (int what : new int[] {LEAST, -1, 2, 3, MOST}) {
            check.due("what " + what, lamps.worst(1, what), -1);
        }
        lamps.find(1);
        check.due("without one", lamps.worst(1, 0), -1);
        check.due("without one", lamps.worst(1, 1), -1);
        MissingLamps late = Tape.late("quay 3 by 3;" + Tape.things(1), 980);
        check.due("up to 999", late.worst(19, 0), 0);
        check.due("beyond 999", late.worst(20, 0), -1);
        check.due("without things", Tape.laid("quay 3 by 3;folk f at 0 0 home 0 0;").worst(1, 1), -1);
    }

    private void p16cover() {
        check.of("16: A COVER, as bits (0 when nothing is LIT)");
        MissingLamps lamps = Tape.laid(QUAY);
        check.due("ab", lamps.cover(), 1);
        lamps.lose(1);
        check.due("both", lamps.cover(), 3);
        lamps.find(0);
        check.due("cdefgh", lamps.cover(), 2);
        lamps.find(1);
        check.due("nothing", lamps.cover(), 0);
    }

    private void p17send() {
        check.of("17: how many of the FOLK (0), by how many steps (1), the THING for the one of number k (2 + k; NONE none)");
        MissingLamps lamps = Tape.laid(QUAY);
        check.isSent(lamps, 1, 1, 0, -1);
        lamps.lose(1);
        check.isSent(lamps, 2, 1, 0, 1);
        check.of("17: NONE when there is none such, or for others");
        for (int what : new int[] {LEAST, -2, -1, 4, 5, 7, 8, MOST}) {
            check.due("send " + what, lamps.send(what), -1);
        }
        MissingLamps six = Tape.laid("quay 3 by 3;" + Tape.things(9) + Tape.folk(6));
        check.isSent(six, 6, 0, 0, 1, 2, 3, 4, 5);
        check.due("send 9", six.send(9), -1);
    }

    private void p18odds() {
        check.of("18: ODDS of one of the FOLK; all rows for NONE");
        MissingLamps lamps = Tape.laid(QUAY + "gale 30;pace 3;");
        check.due("all rows", lamps.odds(-1), 200);
        check.due("by ab", lamps.odds(0), 170);
        check.due("at home", lamps.odds(1), 200);
        check.of("18: NONE when there is none such, without THINGS, or beyond NIGHT 999");
        for (int bad : new int[] {LEAST, -2, 2, 3, 6, MOST}) {
            check.due("folk " + bad, lamps.odds(bad), -1);
        }
        MissingLamps none = Tape.laid("quay 3 by 3;gale 5;folk f at 0 0 home 0 0;");
        check.due("without things", none.odds(0), -1);
        check.due("without things", none.odds(-1), -1);
        MissingLamps nobody = Tape.laid("quay 3 by 3;" + Tape.things(2));
        check.due("nobody", nobody.odds(0), -1);
        check.due("all rows", nobody.odds(-1), 200);
        String late = QUAY + "gale 30;pace 3;";
        check.due("at 998", Tape.late(late, 998).odds(0), 170);
        check.due("at 998", Tape.late(late, 998).odds(-1), 200);
        check.due("at 999", Tape.late(late, 999).odds(0), -1);
        check.due("at 999", Tape.late(late, 999).odds(1), -1);
        check.due("at 999", Tape.late(late, 999).odds(-1), -1);
    }

    private void p19meet() {
        check.of("19: The tape (it goes) tells MET: how many rows; NONE, refused (5)");
        MissingLamps lamps = Tape.laid(QUAY);
        check.due("no tape", lamps.meet(), -1);
        check.due("refused", lamps.status(5), 1);
        check.due("two rows", Tape.meet(lamps, 0, 0, 0, 0, 0, 1, 4, 3), 2);
        check.due("the tape is gone", lamps.end(1), false);
        check.due("rows", lamps.has(10), 2);
        String told = Told.all(lamps);
        check.due("a bad one", Tape.meet(lamps, 0, 0, 0), -1);
        check.due("the tape is gone", lamps.end(1), false);
        check.due("refused", lamps.status(5), 2);
        check.due("all stays", Told.all(lamps), told);
        check.due("one row", Tape.meet(lamps, 3, 1, 4, 3), 1);
        check.due("the latest alone", lamps.has(10), 1);
        MissingLamps none = new MissingLamps();
        check.due("without a quay", Tape.meet(none, 0, 0, 0, 0), -1);
        check.due("refused", none.status(5), 1);
        check.due("without folk", Tape.meet(Tape.laid("quay 3 by 3;" + Tape.things(1)), 0, 0, 0, 0), -1);
        check.due("without things", Tape.meet(Tape.laid("quay 3 by 3;" + Tape.folk(1)), 0, 0, 0, 0), 1);
    }

    private void p20hues() {
        check.of("20: of the latest meet() of this QUAY that was not refused; all, if there was none");
        MissingLamps lamps = Tape.laid(QUAY);
        check.due("none", lamps.hues(0), 511);
        Tape.meet(lamps, 31, 0, 0, 0);
        check.due("a refused one alone", lamps.hues(0), 511);
        Tape.meet(lamps, 1, 0, 1, 0);
        // He goes if his home, two columns from it, is lit.
        check.due("met", lamps.hues(0), 510);
        check.due("of the other thing, not missing", lamps.hues(1), 511);
        Tape.meet(lamps, 1, 0, 9, 9);
        check.due("a refused one", lamps.hues(0), 510);
        Tape.meet(lamps, 1, 0, 0, 0);
        check.due("the latest", lamps.hues(0), 1);
        check.due("of the other thing", lamps.hues(1), 0);
        Tape.quay(lamps, "quay");
        check.due("behind a fault", lamps.hues(0), 1);
        Tape.quay(lamps, QUAY);
        check.due("of another quay", lamps.hues(0), 511);
        check.of("20: NIGHTS beyond 999 are by none");
        MissingLamps late = Tape.late(QUAY, 997);
        Tape.meet(late, 2, 1, 4, 3);
        check.due("to 999", late.hues(0), 511);
        Tape.meet(late, 3, 1, 4, 3);
        check.due("to 1000", late.hues(0), 0);
        check.isTelling(late, 0, -1, -1, -1);
        Tape.meet(late, 0, 1, 4, 3, 3, 1, 4, 3, 0, 1, 4, 3);
        check.due("one of them to 1000", late.hues(0), 0);
        late.undo();
        MissingLamps last = Tape.late(QUAY, 999);
        Tape.meet(last, 0, 1, 4, 3);
        check.due("now", last.hues(0), 511);
        Tape.meet(last, 1, 1, 4, 3);
        check.due("beyond", last.hues(0), 0);
        check.of("20: NONE when there is none such");
        for (int bad : new int[] {LEAST, -1, 2, 9, MOST}) {
            check.due("thing " + bad, lamps.hues(bad), -1);
        }
        check.due("without folk", Tape.laid("quay 3 by 3;" + Tape.things(1)).hues(0), 511);
    }

    private void p21tells() {
        check.of("21: the number of NIGHTS (0), the one of the FOLK (1), how many HUES are left at the most (2)");
        MissingLamps lamps = Tape.laid(QUAY);
        check.isTelling(lamps, 0, 1, 0, 8);
        check.isTelling(lamps, 1, 1, 0, 9);
        check.of("21: NONE for others, when there is none such");
        for (int what : new int[] {LEAST, -1, 3, 4, MOST}) {
            check.due("what " + what, lamps.tells(0, what), -1);
        }
        for (int what = 0; what < 3; what++) {
            for (int bad : new int[] {LEAST, -1, 2, 9, MOST}) {
                check.due("thing " + bad, lamps.tells(bad, what), -1);
            }
        }
        check.of("21: NONE without any left, without FOLK, when no NIGHT comes");
        Tape.meet(lamps, 0, 0, 1, 1);
        check.isTelling(lamps, 0, -1, -1, -1);
        check.isTelling(Tape.laid("quay 3 by 3;" + Tape.things(1)), 0, -1, -1, -1);
        check.isTelling(Tape.late(QUAY, 998), 0, 1, 0, 8);
        check.isTelling(Tape.late(QUAY, 999), 0, -1, -1, -1);
    }

    private void p22nights() {
        check.of("22: n NIGHTS go by (1 .. 40), without DRAWS: how many were FOUND");
        MissingLamps lamps = Tape.laid("quay 3 by 3;gale 100;" + Tape.things(9) + "has a;finds all;loses all;");
        check.due("one", lamps.nights(1), 8);
        check.due("two", lamps.nights(2), 9);
        check.due("forty", lamps.nights(40), 180);
        check.due("night", lamps.has(5), 43);
        check.due("the seed", lamps.has(12), 1);
        check.due("acts", lamps.has(11), 3);
        refusedNights();
    }

    private void refusedNights() {
        check.of("22: NONE, refused (2), when it can't be (beyond NIGHT 999, without a quay)");
        MissingLamps lamps = Tape.laid(QUAY);
        lamps.nights(2);
        String told = Told.all(lamps);
        int refused = 0;
        for (int n : new int[] {LEAST, -1, 0, 41, 42, MOST}) {
            check.due("nights " + n, lamps.nights(n), -1);
            refused++;
            check.due("refused", lamps.status(2), refused);
        }
        check.due("all stays", Told.all(lamps), told);
        for (int night = 959; night <= 960; night++) {
            MissingLamps late = Tape.late("quay 3 by 3;", night);
            check.due("forty from " + night, late.nights(40), night == 959 ? 0 : -1);
            check.due("night", late.has(5), night == 959 ? 999 : 960);
            check.due("acts", late.has(11), night == 959 ? 1 : 0);
        }
        check.due("without a quay", new MissingLamps().nights(1), -1);
        check.due("without things, folk", Tape.laid("quay 3 by 3;").nights(40), 0);
    }

    private void p23chance() {
        check.of("23: n NIGHTS by the seed (1 .. 40), one ACT: how many gales (of a LANTERN that does not hang, too)");
        MissingLamps lamps = Tape.laid("quay 3 by 3;gale 100;" + Tape.things(2) + "has a;has b;");
        check.due("one", lamps.chance(1), 1);
        check.due("forty", lamps.chance(40), 40);
        check.due("night", lamps.has(5), 41);
        check.due("acts", lamps.has(11), 2);
        lamps.undo();
        check.due("all forty are undone", lamps.has(5), 1);
        check.of("23: NONE, refused (2), when it can't be");
        String told = Told.all(lamps);
        int refused = 0;
        for (int n : new int[] {LEAST, -1, 0, 41, 42, MOST}) {
            check.due("chance " + n, lamps.chance(n), -1);
            refused++;
            check.due("refused", lamps.status(2), refused);
        }
        check.due("all stays, the seed too", Told.all(lamps), told);
        for (int night = 959; night <= 960; night++) {
            MissingLamps late = Tape.late("quay 3 by 3;", night);
            check.due("forty from " + night, late.chance(40), night == 959 ? 0 : -1);
            check.due("night", late.has(5), night == 959 ? 999 : 960);
            check.due("drawn", late.has(12) != 1, night == 959);
        }
        MissingLamps none = new MissingLamps();
        check.due("without a quay", none.chance(1), -1);
        check.due("not drawn", none.has(12), 1);
    }

    private void p24lose() {
        check.of("24: A THING is LOST (it is MISSING for 0 NIGHTS): true");
        MissingLamps lamps = Tape.laid(QUAY);
        lamps.nights(3);
        check.due("lose", lamps.lose(1), true);
        check.due("missing", lamps.thing(1, 4), 1);
        check.due("nights", lamps.thing(1, 5), 0);
        check.due("the night stays", lamps.has(5), 3);
        check.isKept(lamps, 1, 3, 1, 0);
        check.of("24: false, refused (3), when it is MISSING, or there is none such");
        String told = Told.all(lamps);
        int refused = 0;
        for (int bad : new int[] {1, LEAST, -1, 2, 3, 9, 32, MOST}) {
            check.due("lose " + bad, lamps.lose(bad), false);
            refused++;
            check.due("refused", lamps.status(3), refused);
        }
        check.due("all stays", Told.all(lamps), told);
    }

    private void p25find() {
        check.of("25: A THING is FOUND (it is not MISSING for 0 NIGHTS): true");
        MissingLamps lamps = Tape.laid(QUAY + "finds not all;");
        lamps.nights(3);
        check.due("find", lamps.find(0), true);
        check.due("not missing", lamps.thing(0, 4), 0);
        check.due("nights", lamps.thing(0, 5), 0);
        check.due("the night stays", lamps.has(5), 3);
        check.isKept(lamps, 0, 3, 0, 1);
        check.of("25: false, refused (3), when it is not MISSING, or there is none such");
        String told = Told.all(lamps);
        int refused = 0;
        for (int bad : new int[] {0, 1, LEAST, -1, 2, 3, 9, 32, MOST}) {
            check.due("find " + bad, lamps.find(bad), false);
            refused++;
            check.due("refused", lamps.status(3), refused);
        }
        check.due("all stays", Told.all(lamps), told);
    }

    private void p26lead() {
        check.of("26: One of the FOLK is led to a CELL without a wall: true");
        MissingLamps lamps = Tape.laid(QUAY);
        int[][] good = {{0, 4, 3}, {0, 0, 3}, {0, 4, 0}, {1, 4, 0}, {1, 0, 0}};
        for (int k = 0; k < good.length; k++) {
            check.due("lead", lamps.lead(good[k][0], good[k][1], good[k][2]), true);
            check.isAt(lamps, good[k][0], good[k][1], good[k][2]);
            check.due("acts", lamps.has(11), k + 1);
        }
        check.due("nothing is kept", lamps.has(9), 0);
        check.of("26: false, refused (3), when he is there, there is a wall, or there are none such");
        String told = Told.all(lamps);
        int[][] bad = {{0, 4, 0}, {1, 0, 0}, {0, 2, 2}, {2, 1, 1}, {-1, 1, 1}, {6, 1, 1}, {LEAST, 1, 1}, {MOST, 1, 1}, {0, 5, 0},
            {0, 0, 4}, {0, -1, 0}, {0, 0, -1}, {0, 8, 0}, {0, LEAST, 0}, {0, 0, LEAST}, {0, MOST, 0}, {0, 0, MOST}, {0, 12, -1}};
        for (int k = 0; k < bad.length; k++) {
            check.due("lead " + k, lamps.lead(bad[k][0], bad[k][1], bad[k][2]), false);
            check.due("refused", lamps.status(3), k + 1);
        }
        check.due("all stays", Told.all(lamps), told);
    }

    private void p27undo() {
        check.of("27: The latest ACT is undone: all is as it was ahead of it (but the seed): true");
        String text = QUAY + "gale 100;loses age=2;finds not all;";
        for (int act = 0; act < 5; act++) {
            MissingLamps lamps = Tape.laid(text);
            for (int k = 0; k < act; k++) {
                act(lamps, k);
            }
            String told = Told.all(lamps);
            act(lamps, act);
            int seed = lamps.has(12);
            check.due("acts", lamps.has(11), act + 1);
            check.due("drawn by chance alone", seed != 1, act == 4);
            check.due("undo", lamps.undo(), true);
            check.due("the seed stays", lamps.has(12), seed);
            lamps.seed(1);
            check.due("all is as it was ahead of act " + act, Told.all(lamps), told);
            for (int k = act; k > 0; k--) {
                check.due("acts", lamps.has(11), k);
                check.due("undo", lamps.undo(), true);
            }
            check.due("all is as at first", Told.all(lamps), Told.all(Tape.laid(text)));
        }
        undoRefused();
    }

    private static void act(MissingLamps lamps, int which) {
        switch (which) {
            case 0:
                lamps.nights(4);
                break;
            case 1:
                lamps.find(1);
                break;
            case 2:
                lamps.lead(1, 0, 3);
                break;
            case 3:
                lamps.lose(1);
                break;
            default:
                lamps.chance(5);
                break;
        }
    }

    private void undoRefused() {
        check.of("27: false, refused (4), when none can be");
        MissingLamps lamps = Tape.laid(QUAY);
        String told = Told.all(lamps);
        check.due("none", lamps.undo(), false);
        check.due("none", lamps.undo(), false);
        check.due("refused", lamps.status(4), 2);
        check.due("all stays", Told.all(lamps), told);
        lamps.nights(1);
        check.due("one", lamps.undo(), true);
        check.due("no more", lamps.undo(), false);
        MissingLamps none = new MissingLamps();
        check.due("without a quay", none.undo(), false);
        // What was refused, what is met, and the seed are no acts.
        lamps.lose(9);
        lamps.nights(0);
        lamps.seed(3);
        Tape.meet(lamps, 0, 0, 0, 0);
        check.due("no acts", lamps.has(11), 0);
    }

    private void p28seed() {
        check.of("28: The seed: true; false, refused (5), when it is below 0");
        MissingLamps lamps = new MissingLamps();
        int refused = 0;
        for (int seed : new int[] {0, -1, 1, LEAST, MOST, -2, 64}) {
            boolean good = seed >= 0;
            int ahead = lamps.has(12);
            refused += good ? 0 : 1;
            check.due("seed " + seed, lamps.seed(seed), good);
            check.due("it is", lamps.has(12), good ? seed : ahead);
            check.due("refused", lamps.status(5), refused);
        }
    }

    private void p29kept() {
        check.of("29: the k-th from the oldest on: 0 NIGHT, 1 THING, 2 whether FOUND");
        MissingLamps lamps = Tape.laid(QUAY);
        lamps.nights(5);
        lamps.lose(1);
        check.isKept(lamps, 0, 0, 0, 1);
        check.isKept(lamps, 1, 5, 1, 0);
        check.of("29: NONE when there is none such, or for others");
        for (int what = 0; what < 3; what++) {
            for (int k : new int[] {LEAST, -1, 2, 3, 39, 40, 41, MOST}) {
                check.due("kept " + k, lamps.kept(k, what), -1);
            }
        }
        for (int what : new int[] {LEAST, -1, 3, 4, MOST}) {
            check.due("what " + what, lamps.kept(0, what), -1);
        }
    }

    private void p30image() {
        check.of("30: AN IMAGE is written: how many bytes");
        for (int things = 0; things <= 9; things += 3) {
            for (int folk = 0; folk <= 6; folk += 2) {
                MissingLamps lamps = Tape.laid("quay 3 by 3;" + Tape.things(things) + Tape.folk(folk));
                check.due("bytes", lamps.image(), 3 + 2 * things + 2 * folk);
            }
        }
        check.due("without a quay", new MissingLamps().image(), 3);
    }

    private void p31octet() {
        check.of("31: Byte k of the latest image(); NONE when there is none such");
        MissingLamps lamps = new MissingLamps();
        check.due("ahead of any", lamps.octet(0), -1);
        Tape.quay(lamps, QUAY);
        check.due("ahead of any", lamps.octet(0), -1);
        int[] first = Tape.image(lamps);
        check.due("bytes", first.length, 11);
        lamps.nights(1);
        lamps.lose(1);
        for (int k = 0; k < first.length; k++) {
            check.due("the latest image's " + k, lamps.octet(k), first[k]);
        }
        for (int k : new int[] {LEAST, -1, 11, 12, 32, 33, MOST}) {
            check.due("octet " + k, lamps.octet(k), -1);
        }
        check.isImage(lamps, Tape.sealed(0, 1, 0, 0, 1, 0, 1, 0, 4, 3));
        Tape.quay(lamps, "quay 3 by 3;");
        check.due("the latest image's last", lamps.octet(10) >= 0, true);
        check.isImage(lamps, Tape.sealed(0, 0));
        check.due("a shorter one", lamps.octet(3), -1);
    }

    private void p32on() {
        check.of("32: true, all is as it tells, nothing is KEPT, no ACT can be undone");
        MissingLamps lamps = Tape.laid(QUAY);
        lamps.nights(2);
        lamps.lose(1);
        Tape.meet(lamps, 0, 0, 3, 3);
        check.due("on", Tape.on(lamps, Tape.sealed(3, 231, 1, 99, 1, 98, 3, 3, 0, 3)), true);
        check.due("the tape is gone", lamps.end(1), false);
        check.isImage(lamps, Tape.sealed(3, 231, 1, 99, 1, 98, 3, 3, 0, 3));
        check.due("night", lamps.has(5), 999);
        check.due("missing", lamps.has(6), 2);
        check.due("kept", lamps.has(9), 0);
        check.due("acts", lamps.has(11), 0);
        check.due("undo", lamps.undo(), false);
        check.due("what is met stays", lamps.has(10), 1);
        check.due("where he is", lamps.hues(0), 511);
        check.due("all back", Tape.on(lamps, Tape.sealed(0, 0, 0, 0, 0, 0, 0, 0, 4, 3)), true);
        check.isImage(lamps, Tape.sealed(0, 0, 0, 0, 0, 0, 0, 0, 4, 3));
        check.due("missing", lamps.has(6), 0);
        check.due("refused", lamps.status(5), 0);
        // An object goes on where another one was.
        MissingLamps one = Tape.laid(QUAY + "loses age=2;");
        MissingLamps two = Tape.laid(QUAY + "loses age=2;");
        one.nights(2);
        check.due("on", Tape.on(two, Tape.image(one)), true);
        one.nights(7);
        two.nights(7);
        check.isImage(two, Tape.image(one));
    }

    private void p32onRefused() {
        check.of("32: false, refused (5), all staying, if it is none such, or without a quay");
        MissingLamps lamps = Tape.laid(QUAY);
        lamps.nights(2);
        lamps.lose(1);
        String told = Told.all(lamps);
        int[] good = {2, 9, 1, 5, 0, 6, 1, 1, 2, 1};
        // NIGHT 999, NIGHTS of THINGS 99 at most; flags 0, 1; CELLS that there are, without a wall.
        int[][] changes = {{0, 4}, {0, 255}, {2, 2}, {2, 255}, {3, 100}, {3, 255}, {4, 2}, {4, 255}, {5, 100}, {5, 255}, {6, 5}, {6, 8},
            {6, 255}, {7, 4}, {7, 255}, {8, 5}, {8, 255}, {9, 2}, {9, 4}, {9, 255}};
        int refused = 0;
        for (int[] change : changes) {
            int[] bad = good.clone();
            bad[change[0]] = change[1];
            check.due("byte " + change[0] + " is " + change[1], Tape.on(lamps, Tape.sealed(bad)), false);
            refused++;
            check.due("refused", lamps.status(5), refused);
        }
        int[][] others = {{}, {0}, {0, 0}, Tape.sealed(0, 0), Tape.sealed(3, 232, 1, 5, 0, 6, 1, 1, 2, 1), good,
            Tape.sealed(2, 9, 1, 5, 0, 6, 1, 1), Tape.sealed(2, 9, 1, 5, 0, 6, 1, 1, 2, 1, 0), {2, 9, 1, 5, 0, 6, 1, 1, 2, 1, 0}};
        for (int[] bad : others) {
            check.due("bytes " + bad.length, Tape.on(lamps, bad), false);
            refused++;
            check.due("refused", lamps.status(5), refused);
            check.due("the tape is gone", lamps.end(1), false);
        }
        check.due("all stays", Told.all(lamps), told);
        check.due("undo", lamps.undo(), true);
        checkByte(good);
        MissingLamps none = new MissingLamps();
        check.due("without a quay", Tape.on(none, 0, 0, 1), false);
        check.due("without a quay, its own image", Tape.on(none, Tape.image(none)), false);
        check.due("without tape", none.on(), false);
        check.due("refused", none.status(5), 3);
    }

    /** Of all last bytes one is an image's. */
    private void checkByte(int[] good) {
        MissingLamps lamps = Tape.laid(QUAY);
        int[] sealed = Tape.sealed(good);
        for (int off : new int[] {1, 2, 5, 128, 250, 251, 255}) {
            int[] bad = sealed.clone();
            bad[10] = (bad[10] + off) % 256;
            check.due("a last byte off by " + off, Tape.on(lamps, bad), false);
        }
        check.due("the last byte", Tape.on(lamps, sealed), true);
    }

    private void p33status() {
        check.of("33: How many were refused");
        for (int what = 0; what < 6; what++) {
            for (int way = 0; way < 3; way++) {
                MissingLamps lamps = new MissingLamps();
                refuse(lamps, what, way);
                refuse(lamps, what, way);
                StringBuilder due = new StringBuilder();
                for (int k = 0; k < 6; k++) {
                    due.append(k == what ? 2 : 0).append(' ');
                }
                check.due("refusals of " + what, Told.refusals(lamps), due.toString());
            }
        }
        check.of("33: NONE for others");
        for (int what : new int[] {LEAST, -1, 6, 7, MOST}) {
            check.due("status " + what, new MissingLamps().status(what), -1);
        }
        check.of("33: a question that answers NONE is not refused");
        MissingLamps lamps = new MissingLamps();
        lamps.later(0, 0, 0);
        lamps.losses(0, 99);
        lamps.odds(0);
        lamps.kept(0, 0);
        lamps.octet(0);
        lamps.fault(9);
        lamps.hues(0);
        lamps.send(9);
        check.due("refusals", Told.refusals(lamps), "0 0 0 0 0 0 ");
    }

    /** A call that is refused, of each kind that counts in one place. */
    private static void refuse(MissingLamps lamps, int what, int way) {
        switch (what * 3 + way) {
            case 0:
            case 1:
                lamps.end(1);
                break;
            case 2:
                lamps.end(-1);
                break;
            case 3:
            case 4:
            case 5:
                lamps.quay();
                break;
            case 6:
            case 7:
                lamps.nights(1);
                break;
            case 8:
                lamps.chance(1);
                break;
            case 9:
                lamps.lose(0);
                break;
            case 10:
                lamps.find(0);
                break;
            case 11:
                lamps.lead(0, 0, 0);
                break;
            case 15:
                lamps.seed(-1);
                break;
            case 16:
                lamps.meet();
                break;
            case 17:
                lamps.on();
                break;
            default:
                lamps.undo();
                break;
        }
    }

    private void questionsChangeNothing() {
        check.of("11 to 21: questions, by which nothing comes about");
        MissingLamps lamps = Tape.laid(QUAY + "gale 50;loses age=1;");
        lamps.nights(1);
        Tape.meet(lamps, 1, 1, 4, 3);
        String told = Told.all(lamps);
        for (int k = 0; k < 3; k++) {
            lamps.later(0, 40, k);
            lamps.home(k);
            lamps.missing(k, 40);
            lamps.losses(k, 20);
            lamps.worst(20, k);
            lamps.cover();
            lamps.send(k);
            lamps.odds(k - 1);
            lamps.hues(k);
            lamps.tells(k, 2);
            lamps.image();
        }
        check.due("all stays", Told.all(lamps), told);
    }
}
