/** Promises 22 to 29: nights, by the seed or not, acts, undoing them, what is kept. */
public final class ActsTest {
    private static final String QUAY = "quay 7 by 3;pace 2;lack a at 0 0 hue 9 high 0;lack b at 4 0 hue 1 high 0;"
            + "folk f at 0 0 home 6 0;";
    private final Check check = new Check();

    public static void main(String[] args) {
        ActsTest test = new ActsTest();
        test.nights();
        test.refusedNights();
        test.chance();
        test.gales();
        test.loseAndFind();
        test.lead();
        test.undo();
        test.lastActs();
        test.seed();
        test.kept();
        test.lastKept();
        test.check.end();
    }

    private void nights() {
        MissingLamps lamps = Tape.laid(QUAY);
        check.due("nights(1)", lamps.nights(1), 0);
        check.isAt(lamps, 0, 2, 0);
        check.due("nights(3)", lamps.nights(3), 1);
        check.isAt(lamps, 0, 6, 0);
        check.due("night", lamps.has(5), 4);
        check.due("b", lamps.thing(1, 4), 0);
        check.due("acts", lamps.has(11), 2);
        check.due("no draws", lamps.has(12), 1);
        check.isKept(lamps, 0, 1, 1, 1);
        MissingLamps turns = Tape.laid("quay 3 by 3;lack a at 0 0 hue 1 high 0;lack b at 0 0 hue 1 high 0;has b;"
                + "finds all;loses all;");
        check.due("found in 40", turns.nights(40), 40);
    }

    private void refusedNights() {
        MissingLamps lamps = Tape.late(QUAY, 990);
        int[] bad = {0, -1, 41, 10, Integer.MAX_VALUE, Integer.MIN_VALUE};
        for (int k = 0; k < bad.length; k++) {
            check.due("nights " + bad[k], lamps.nights(bad[k]), -1);
            check.due("chance " + bad[k], lamps.chance(bad[k]), -1);
            check.due("refused", lamps.status(2), 2 * k + 2);
        }
        check.due("no act", lamps.has(11), 0);
        check.due("no draw", lamps.has(12), 1);
        check.due("nights 9", lamps.nights(9), 1);
        check.due("night", lamps.has(5), 999);
        check.due("no more", lamps.nights(1), -1);
        check.due("no more", lamps.chance(1), -1);
        MissingLamps none = new MissingLamps();
        check.due("no quay", none.nights(1), -1);
        check.due("no quay", none.chance(1), -1);
        check.due("refused", none.status(2), 2);
    }

    /** From seed 1 on the draws of 100 are 18, then 99, 26, 80, 16, 14. */
    private void chance() {
        MissingLamps calm = Tape.laid(QUAY + "gale 18;");
        check.due("18 is not below 18", calm.chance(1), 0);
        check.due("the seed", calm.has(12), 1103527590);
        check.isAt(calm, 0, 2, 0);
        MissingLamps windy = Tape.laid(QUAY + "gale 19;");
        check.due("18 is below 19", windy.chance(1), 1);
        check.due("a second draw", windy.has(12), 377401575);
        check.isAt(windy, 0, 2, 0);
        check.due("26, 80, 16 and a draw", windy.chance(3), 1);
        check.due("the seed", windy.has(12), 368800899);
        check.due("acts", windy.has(11), 2);
        MissingLamps one = Tape.laid("quay 3 by 3;gale 100;lack a at 0 0 hue 1 high 0;");
        check.due("one thing, each night", one.chance(2), 2);
        check.due("four draws", one.has(12), 1147902781);
        MissingLamps nothing = Tape.laid("quay 3 by 3;gale 100;");
        check.due("without things", nothing.chance(2), 0);
        check.due("two draws", nothing.has(12), 377401575);
    }

    private void gales() {
        // The second of two things is drawn: its lantern is out for one night, and it is missing all the same.
        MissingLamps lamps = Tape.laid("quay 7 by 3;pace 2;gale 19;lack a at 0 0 hue 1 high 0;lack b at 0 0 hue 9 high 0;"
                + "folk f at 0 0 home 6 0;");
        check.due("gale", lamps.chance(1), 1);
        check.isAt(lamps, 0, 0, 0);
        check.due("found by who stayed", lamps.thing(1, 4), 0);
        lamps.undo();
        lamps.lead(0, 1, 0);
        lamps.seed(1);
        check.due("gale", lamps.chance(1), 1);
        check.isAt(lamps, 0, 1, 0);
        check.due("missing for a night", lamps.thing(1, 5), 1);
        check.due("lit again", lamps.thing(1, 6), 9);
        check.due("no gale", lamps.chance(1), 0);
        check.isAt(lamps, 0, 3, 0);
        // A gale of a lantern that does not hang counts too.
        MissingLamps gone = Tape.laid("quay 7 by 3;pace 2;gale 19;lack a at 3 0 hue 9 high 0;lack b at 0 0 hue 9 high 0;has b;"
                + "folk f at 0 0 home 6 0;");
        check.due("gale", gone.chance(1), 1);
        check.isAt(gone, 0, 2, 0);
    }

    private void loseAndFind() {
        MissingLamps lamps = Tape.laid(QUAY + "has b;");
        lamps.nights(3);
        check.due("lose b", lamps.lose(1), true);
        check.due("b", lamps.thing(1, 4), 1);
        check.due("0 nights", lamps.thing(1, 5), 0);
        check.due("a for 3", lamps.thing(0, 5), 3);
        check.isKept(lamps, 0, 3, 1, 0);
        check.due("lose b again", lamps.lose(1), false);
        check.due("lose 2", lamps.lose(2), false);
        check.due("lose -1", lamps.lose(-1), false);
        check.due("refused", lamps.status(3), 3);
        check.due("find a", lamps.find(0), true);
        check.due("a", lamps.thing(0, 4), 0);
        check.due("0 nights", lamps.thing(0, 5), 0);
        check.isKept(lamps, 1, 3, 0, 1);
        check.due("find a again", lamps.find(0), false);
        check.due("find 2", lamps.find(2), false);
        check.due("find -1", lamps.find(-1), false);
        check.due("refused", lamps.status(3), 6);
        check.due("kept", lamps.has(9), 2);
        check.due("acts", lamps.has(11), 3);
    }

    private void lead() {
        MissingLamps lamps = Tape.laid("quay 4 by 3;wall 1 1;folk f at 0 0 home 3 2;folk g at 1 0 home 1 0;");
        check.due("led", lamps.lead(0, 3, 2), true);
        check.isAt(lamps, 0, 3, 2);
        check.due("at home", lamps.has(8), 2);
        check.due("to another", lamps.lead(0, 1, 0), true);
        int[][] bad = {{0, 1, 0}, {0, 1, 1}, {0, 4, 0}, {0, 0, 3}, {0, -1, 0}, {0, 0, -1}, {2, 0, 0}, {-1, 0, 0}};
        for (int k = 0; k < bad.length; k++) {
            check.due("bad lead " + k, lamps.lead(bad[k][0], bad[k][1], bad[k][2]), false);
            check.due("refused", lamps.status(3), k + 1);
        }
        check.due("acts", lamps.has(11), 2);
        check.due("nothing is kept", lamps.has(9), 0);
    }

    private void undo() {
        MissingLamps lamps = Tape.laid(QUAY + "gale 19;");
        check.due("no act", lamps.undo(), false);
        check.due("refused", lamps.status(4), 1);
        lamps.nights(2);
        lamps.find(0);
        lamps.lead(0, 1, 2);
        lamps.chance(5);
        int drawn = lamps.has(12);
        check.due("acts", lamps.has(11), 4);
        check.due("undo chance", lamps.undo(), true);
        check.due("night", lamps.has(5), 2);
        check.due("the seed stays", lamps.has(12), drawn);
        check.isAt(lamps, 0, 1, 2);
        check.due("undo lead", lamps.undo(), true);
        check.isAt(lamps, 0, 4, 0);
        check.due("kept", lamps.has(9), 2);
        check.due("undo find", lamps.undo(), true);
        check.due("a", lamps.thing(0, 4), 1);
        check.due("for 2 nights", lamps.thing(0, 5), 2);
        check.due("kept", lamps.has(9), 1);
        check.due("undo nights", lamps.undo(), true);
        check.isAt(lamps, 0, 0, 0);
        check.due("b", lamps.thing(1, 4), 1);
        check.due("kept", lamps.has(9), 0);
        check.due("acts", lamps.has(11), 0);
        check.due("no more", lamps.undo(), false);
        check.due("refused", lamps.status(4), 2);
    }

    private void lastActs() {
        MissingLamps lamps = Tape.laid(QUAY);
        for (int k = 0; k < 25; k++) {
            check.due("act", lamps.lead(0, k % 7, k / 7 % 3) || lamps.lead(0, 6, 2), true);
        }
        check.due("20 at most", lamps.has(11), 20);
        for (int k = 0; k < 20; k++) {
            check.due("undo", lamps.undo(), true);
        }
        check.isAt(lamps, 0, 4, 0);
        check.due("no more", lamps.undo(), false);
        check.due("no acts", lamps.has(11), 0);
    }

    private void seed() {
        MissingLamps lamps = new MissingLamps();
        check.due("seed(0)", lamps.seed(0), true);
        check.due("the seed", lamps.has(12), 0);
        check.due("seed(-1)", lamps.seed(-1), false);
        check.due("refused", lamps.status(5), 1);
        check.due("the seed", lamps.has(12), 0);
        check.due("the greatest", lamps.seed(Integer.MAX_VALUE), true);
        check.due("the seed", lamps.has(12), Integer.MAX_VALUE);
        Tape.quay(lamps, "quay 3 by 3;");
        check.due("the seed stays", lamps.has(12), Integer.MAX_VALUE);
        lamps.chance(1);
        check.due("drawn", lamps.has(12), (1103515245L * Integer.MAX_VALUE + 12345) % 2147483648L);
    }

    private void kept() {
        MissingLamps lamps = Tape.laid("quay 3 by 3;lack a at 0 0 hue 1 high 0;lack b at 0 0 hue 1 high 0;has b;"
                + "lack c at 0 0 hue 1 high 1;finds high=1;loses night=1;");
        lamps.nights(2);
        lamps.find(0);
        int[][] due = {{0, 2, 1}, {1, 1, 0}, {1, 2, 0}, {2, 0, 1}};
        check.due("kept", lamps.has(9), due.length);
        for (int k = 0; k < due.length; k++) {
            check.isKept(lamps, k, due[k][0], due[k][1], due[k][2]);
        }
        int[][] none = {{4, 0}, {-1, 0}, {0, 3}, {0, -1}};
        for (int[] one : none) {
            check.due("kept none", lamps.kept(one[0], one[1]), -1);
        }
        check.due("nothing is kept", new MissingLamps().kept(0, 0), -1);
    }

    private void lastKept() {
        StringBuilder text = new StringBuilder("quay 3 by 3;finds all;loses all;");
        for (char c = 'a'; c < 'j'; c++) {
            text.append("lack ").append(c).append(" at 0 0 hue 1 high 0;");
        }
        MissingLamps lamps = Tape.laid(text.toString());
        lamps.nights(4);
        check.due("36", lamps.has(9), 36);
        lamps.nights(1);
        check.due("40 at most", lamps.has(9), 40);
        for (int k = 0; k < 40; k++) {
            check.isKept(lamps, k, (k + 5) / 9, (k + 5) % 9, 1 - (k + 5) / 9 % 2);
        }
        check.due("the 41st", lamps.kept(40, 0), -1);
        lamps.nights(40);
        check.isKept(lamps, 39, 44, 8, 1);
        lamps.undo();
        check.isKept(lamps, 0, 0, 5, 1);
        check.due("40", lamps.has(9), 40);
        lamps.undo();
        check.due("36", lamps.has(9), 36);
        check.isKept(lamps, 0, 0, 0, 1);
    }
}
