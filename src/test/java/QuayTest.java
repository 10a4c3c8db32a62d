/** Promises 6 to 13: what is so now, the sums and tests, the road, and the nights ahead. */
public final class QuayTest {
    private static final String SMALL = "quay 5 by 3;pace 2;gale 50;wall 2 0;lack cat at 0 0 hue 2 high 1;"
            + "lack word at 4 2 hue 1 high 3;lack boat at 2 2 hue 3 high 0;has boat;folk ann at 1 1 home 0 2;"
            + "folk ned at 4 1 home 1 0;glows hue;finds near>0 and age>1;loses age>2;";
    private final Check check = new Check();

    public static void main(String[] args) {
        QuayTest test = new QuayTest();
        test.counts();
        test.letters();
        test.cells();
        test.things();
        test.folk();
        test.sums();
        test.tests();
        test.road();
        test.firstWay();
        test.night();
        test.ages();
        test.ahead();
        test.lastNight();
        test.check.end();
    }

    private void counts() {
        MissingLamps lamps = Tape.laid(SMALL);
        int[] due = {5, 3, 1, 3, 2, 0, 2, 8, 0, 0, 0, 0, 1};
        for (int what = 0; what < due.length; what++) {
            check.due("has " + what, lamps.has(what), due[what]);
        }
        check.due("has 13", lamps.has(13), -1);
        check.due("has -1", lamps.has(-1), -1);
        check.due("nights", lamps.nights(4), 0);
        check.due("night", lamps.has(5), 4);
        check.due("folk at home", lamps.has(8), 1);
    }

    private void letters() {
        MissingLamps lamps = Tape.laid("quay 3 by 3;lack azbycx at 0 0 hue 1 high 0;lack q at 1 1 hue 1 high 0;"
                + "folk zz at 0 0 home 0 0;");
        int[] due = {1, 26, 2, 25, 3, 24};
        for (int k = 0; k < 6; k++) {
            check.due("letter " + k, lamps.letter(0, 0, k), due[k]);
            check.due("letter " + k, lamps.letter(0, 1, k), k == 0 ? 17 : 0);
            check.due("letter " + k, lamps.letter(1, 0, k), k < 2 ? 26 : 0);
        }
        int[][] none = {{0, 0, 6}, {0, 0, -1}, {0, 2, 0}, {0, -1, 0}, {1, 1, 0}, {1, -1, 0}, {2, 0, 0}, {-1, 0, 0}};
        for (int[] one : none) {
            check.due("no letter", lamps.letter(one[0], one[1], one[2]), -1);
        }
    }

    private void cells() {
        // A lantern's light goes round walls as through air, and never falls on one.
        MissingLamps lamps = Tape.laid("quay 5 by 4;wall 1 0;wall 2 2;lack a at 0 0 hue 3 high 0;lack b at 2 1 hue 1 high 0;"
                + "lack c at 4 3 hue 9 high 0;has c;");
        String[] lanterns = {"10210", "12210", "11000", "10000"};
        int lit = 0;
        for (int row = 0; row < 4; row++) {
            for (int column = 0; column < 5; column++) {
                int due = lanterns[row].charAt(column) - '0';
                boolean wall = column == 1 && row == 0 || column == 2 && row == 2;
                lit += Math.min(due, 1);
                check.due("wall " + column + " " + row, lamps.cell(column, row, 0), wall ? 1 : 0);
                check.due("lit " + column + " " + row, lamps.cell(column, row, 1), Math.min(due, 1));
                check.due("lanterns " + column + " " + row, lamps.cell(column, row, 2), due);
            }
        }
        check.due("lit cells", lamps.has(7), lit);
        int[][] none = {{5, 0, 0}, {0, 4, 0}, {-1, 0, 0}, {0, -1, 1}, {0, 0, 3}, {0, 0, -1}, {8, 0, 1}, {7, 0, 2}};
        for (int[] one : none) {
            check.due("no cell", lamps.cell(one[0], one[1], one[2]), -1);
        }
    }

    private void things() {
        MissingLamps lamps = Tape.laid(SMALL);
        int[][] due = {{0, 0, 2, 1, 1, 0, 2, -1}, {4, 2, 1, 3, 1, 0, 1, -1}, {2, 2, 3, 0, 0, 0, -1, -1}};
        for (int t = 0; t < 3; t++) {
            for (int what = 0; what < 8; what++) {
                check.due("thing " + t + " " + what, lamps.thing(t, what), due[t][what]);
            }
        }
        check.due("thing 3", lamps.thing(3, 0), -1);
        check.due("thing -1", lamps.thing(-1, 0), -1);
        check.due("what -1", lamps.thing(0, -1), -1);
    }

    private void folk() {
        MissingLamps lamps = Tape.laid(SMALL);
        int[][] due = {{1, 1, 0, 2, 2, -1}, {4, 1, 1, 0, -1, -1}};
        for (int f = 0; f < 2; f++) {
            for (int what = 0; what < 6; what++) {
                check.due("folk " + f + " " + what, lamps.folk(f, what), due[f][what]);
            }
        }
        check.due("folk 2", lamps.folk(2, 0), -1);
        check.due("folk -1", lamps.folk(-1, 0), -1);
        check.due("what -1", lamps.folk(0, -1), -1);
    }

    /** How far a lantern glows by a sum: hue 5, high 7, the first of two things missing. */
    private void glows(String sum, int due) {
        MissingLamps lamps = Tape.laid("quay 3 by 3;lack a at 0 0 hue 5 high 7;lack b at 0 0 hue 1 high 1;"
                + "lack c at 0 0 hue 1 high 1;has c;glows " + sum + ";");
        check.due("glows " + sum, lamps.thing(0, 6), due);
    }

    private void sums() {
        glows("hue", 5);
        glows("high", 7);
        glows("age", 0);
        glows("night", 0);
        glows("lost", 2);
        glows("3-9", 0);
        glows("9999", 9);
        glows("2+2*3", 8);
        glows("(2+1)*3", 9);
        glows("9-3-2", 4);
        glows("8/4/2", 1);
        glows("7-4+2", 5);
        glows("9/2*2", 8);
        glows("9%5*2", 8);
        glows("7/0", 0);
        glows("7%0", 0);
        glows("9+(0-7)/2", 5);
        glows("(0-7)%3", 2);
        glows("9+7%(0-3)", 7);
        glows("9+7/(0-3)", 6);
        glows("(0-7)/(0-2)", 3);
        glows("9+(0-7)%(0-4)", 6);
        glows("9999*9999/9999-95", 5);
        glows("(0-9999)*9999/9999+105", 4);
        glows("9999*9999+9999-9999*100-95", 5);
        glows("0-9999*9999-9999+9999*100+105", 5);
        glows("min(3,8)", 3);
        glows("max(3,8)", 8);
        glows("min(max(1,hue),high-3)", 4);
        glows("if(hue<high,3,4)", 3);
        glows("if(hue>high,3,4)", 4);
        glows("if(hue=5,if(all,1,2),4)", 1);
        glows("if(not all,1,2)", 2);
    }

    /** Whether a test holds, by a glow of 1 or 2. */
    private void holds(String test, boolean due) {
        glows("if(" + test + ",1,2)", due ? 1 : 2);
    }

    private void tests() {
        holds("all", true);
        holds("not all", false);
        holds("not not all", true);
        holds("1<1", false);
        holds("1>1", false);
        holds("1=1", true);
        holds("1+1=2", true);
        holds("all or all and not all", true);
        holds("[all or all] and not all", false);
        holds("not all and not all", false);
        holds("not all or all", true);
        holds("not [all and not all]", true);
        holds("not 1<2 or 2<1", false);
        holds("lost=2 and hue=5 and high=7 and age=0 and night=0", true);
    }

    private void road() {
        // His own cell need not be lit, each other one must be, his home too.
        MissingLamps dark = Tape.laid("quay 5 by 3;lack a at 2 0 hue 1 high 0;folk f at 0 0 home 3 0;"
                + "folk g at 4 0 home 1 0;folk h at 1 0 home 4 0;folk i at 4 2 home 4 2;");
        int[] due = {3, 3, -1, 0};
        for (int f = 0; f < 4; f++) {
            check.due("road " + f, dark.folk(f, 4), due[f]);
        }
        check.due("at home", dark.has(8), 1);
        // Around a wall; the pace ends a night's way, and home does.
        MissingLamps lamps = Tape.laid("quay 5 by 3;pace 4;wall 2 0;wall 2 1;lack a at 4 0 hue 9 high 0;folk f at 1 0 home 3 0;");
        check.due("around", lamps.folk(0, 4), 6);
        check.willBeAt(lamps, 0, 1, 3, 2);
        check.willBeAt(lamps, 0, 2, 3, 0);
        check.willBeAt(lamps, 0, 3, 3, 0);
        check.due("home", lamps.home(0), 2);
        // Without a pace it is 3.
        check.willBeAt(Tape.laid("quay 7 by 3;lack a at 6 0 hue 9 high 0;folk f at 0 0 home 6 0;"), 0, 1, 3, 0);
        check.willBeAt(Tape.laid("quay 7 by 3;pace 5;pace 1;lack a at 6 0 hue 9 high 0;folk f at 0 0 home 6 0;"), 0, 1, 1, 0);
    }

    private void firstWay() {
        String all = "quay 3 by 3;pace 1;lack a at 1 1 hue 9 high 0;finds not all;";
        int[][] ways = {{0, 2, 2, 0, 0, 1}, {2, 2, 0, 0, 2, 1}, {0, 0, 2, 2, 1, 0}, {2, 0, 0, 2, 2, 1}};
        for (int[] w : ways) {
            MissingLamps lamps = Tape.laid(all + "folk f at " + w[0] + " " + w[1] + " home " + w[2] + " " + w[3] + ";");
            check.willBeAt(lamps, 0, 1, w[4], w[5]);
        }
        // The cell above is as near to his home, but it is dark.
        MissingLamps lamps = Tape.laid("quay 5 by 3;pace 1;lack a at 2 1 hue 1 high 0;finds not all;folk f at 1 1 home 2 0;");
        check.due("above is dark", lamps.cell(1, 0, 1), 0);
        check.willBeAt(lamps, 0, 1, 2, 1);
        check.willBeAt(lamps, 0, 2, 2, 0);
    }

    private void night() {
        // He passes a, ends on b: b is found, a is not; what is missing counts as ahead of the night.
        MissingLamps lamps = Tape.laid("quay 4 by 3;pace 2;lack a at 1 0 hue 9 high 0;lack b at 2 0 hue 1 high 0;"
                + "lack c at 0 2 hue 1 high 0;has c;folk f at 0 0 home 3 0;loses lost=1;");
        check.due("a", lamps.missing(0, 1), 1);
        check.due("b", lamps.missing(1, 1), 0);
        check.due("c", lamps.missing(2, 1), 0);
        check.due("c", lamps.missing(2, 2), 1);
        check.due("b", lamps.missing(1, 2), 1);
        check.due("nothing is lost without a test", Tape.laid("quay 3 by 3;lack a at 0 0 hue 1 high 0;has a;").missing(0, 40), 0);
        // The night's number in a test is the one ahead of it.
        MissingLamps third = Tape.laid("quay 3 by 3;lack a at 0 0 hue 1 high 0;finds night=2;");
        check.due("ahead of the third night", third.missing(0, 2), 1);
        check.due("behind the third night", third.missing(0, 3), 0);
        // near counts folk in the cell, behind their way.
        String two = "quay 3 by 3;lack a at 1 1 hue 9 high 0;finds near=2;folk f at 0 1 home 1 1;";
        check.due("one is near", Tape.laid(two).missing(0, 1), 1);
        check.due("two are near", Tape.laid(two + "folk g at 1 0 home 1 1;").missing(0, 1), 0);
        check.due("three are near", Tape.laid(two + "folk g at 1 0 home 1 1;folk h at 1 1 home 1 1;").missing(0, 1), 1);
    }

    private void ages() {
        MissingLamps lamps = Tape.laid("quay 3 by 3;lack a at 0 0 hue 1 high 0;lack b at 0 0 hue 1 high 0;has b;loses age=3;"
                + "finds age=1;");
        int[][] due = {{1, 0, 0, 0}, {1, 1, 0, 1}, {0, 0, 0, 2}, {0, 1, 0, 3}, {0, 2, 1, 0}, {0, 3, 1, 1}, {1, 0, 0, 0}};
        for (int[] row : due) {
            check.due("a missing", lamps.thing(0, 4), row[0]);
            check.due("a's nights", lamps.thing(0, 5), row[1]);
            check.due("b missing", lamps.thing(1, 4), row[2]);
            check.due("b's nights", lamps.thing(1, 5), row[3]);
            lamps.nights(1);
        }
        MissingLamps old = Tape.laid("quay 3 by 3;lack a at 0 0 hue 1 high 0;");
        old.nights(40);
        old.nights(40);
        old.nights(19);
        check.due("99 nights", old.thing(0, 5), 99);
        old.nights(1);
        check.due("99 at most", old.thing(0, 5), 99);
        check.due("night 100", old.has(5), 100);
    }

    private void ahead() {
        MissingLamps lamps = Tape.laid(SMALL);
        check.willBeAt(lamps, 0, 0, 1, 1);
        check.willBeAt(lamps, 0, 1, 0, 2);
        check.willBeAt(lamps, 1, 4, 4, 1);
        check.willBeAt(lamps, 1, 5, 2, 1);
        check.willBeAt(lamps, 1, 6, 1, 0);
        check.willBeAt(lamps, 1, 40, 1, 0);
        int[][] none = {{0, 41, 0}, {0, -1, 0}, {0, 0, 2}, {0, 0, -1}, {2, 0, 0}, {-1, 0, 0}, {0, Integer.MAX_VALUE, 0}};
        for (int[] one : none) {
            check.due("later none", lamps.later(one[0], one[1], one[2]), -1);
        }
        check.due("home 0", lamps.home(0), 1);
        check.due("home 1", lamps.home(1), 6);
        check.due("home 2", lamps.home(2), -1);
        check.due("home -1", lamps.home(-1), -1);
        check.due("never home", Tape.laid("quay 3 by 3;folk f at 0 0 home 1 1;").home(0), -1);
        check.due("home now", Tape.laid("quay 3 by 3;folk f at 1 1 home 1 1;").home(0), 0);
        String late = "quay 3 by 3;lack a at 1 1 hue 9 high 0;glows night/";
        check.due("home behind 40", Tape.laid(late + "39;folk f at 0 1 home 1 1;").home(0), 1);
        check.due("home behind 40", Tape.laid(late + "39;folk f at 0 1 home 2 1;").home(0), 40);
        check.due("not behind 41", Tape.laid(late + "40;folk f at 0 1 home 2 1;").home(0), -1);
        check.due("missing now", lamps.missing(2, 0), 0);
        check.due("missing 3", lamps.missing(2, 3), 0);
        check.due("missing 4", lamps.missing(2, 4), 1);
        check.due("missing 41", lamps.missing(0, 41), -1);
        check.due("missing -1", lamps.missing(0, -1), -1);
        check.due("missing of 3", lamps.missing(3, 0), -1);
        check.due("missing of -1", lamps.missing(-1, 0), -1);
        check.due("nothing has changed", lamps.has(5), 0);
    }

    private void lastNight() {
        MissingLamps lamps = Tape.laid("quay 3 by 3;pace 1;lack a at 1 1 hue 9 high 0;finds not all;folk f at 0 0 home 2 2;");
        for (int k = 0; k < 24; k++) {
            lamps.nights(40);
            lamps.lead(0, 0, 0);
        }
        lamps.nights(36);
        lamps.lead(0, 0, 0);
        check.due("night", lamps.has(5), 996);
        check.due("later 3", lamps.later(0, 3, 0), 2);
        check.due("later 4", lamps.later(0, 4, 0), -1);
        check.due("missing 3", lamps.missing(0, 3), 1);
        check.due("missing 4", lamps.missing(0, 4), -1);
        check.due("home", lamps.home(0), -1);
        lamps.lead(0, 1, 0);
        check.due("home", lamps.home(0), 3);
    }
}
