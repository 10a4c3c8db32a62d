/** Promises 19 to 21: what was met, the hues by it, what tells most. */
public final class HuesTest {
    // By hue h the first of the folk gets home in a night from 6 on, the second from 4 on.
    private static final String QUAY = "quay 7 by 3;pace 9;lack a at 0 0 hue 1 high 0;finds not all;"
            + "folk f at 0 0 home 6 0;folk g at 0 2 home 4 0;lack b at 6 2 hue 1 high 0;has b;";
    private final Check check = new Check();

    public static void main(String[] args) {
        HuesTest test = new HuesTest();
        test.meet();
        test.refused();
        test.hues();
        test.tells();
        test.tellsLikeOnes();
        test.late();
        test.stays();
        test.check.end();
    }

    private void meet() {
        MissingLamps lamps = Tape.laid(QUAY);
        check.due("one row", Tape.meet(lamps, 30, 1, 6, 2), 1);
        check.due("rows", lamps.has(10), 1);
        int[] all = new int[64];
        check.due("16 rows", Tape.meet(lamps, all), 16);
        check.due("rows", lamps.has(10), 16);
        check.due("the tape is gone", lamps.end(1), false);
        MissingLamps walled = Tape.laid("quay 3 by 3;wall 1 1;lack a at 0 0 hue 1 high 0;folk f at 0 0 home 2 2;");
        check.due("a wall's cell", Tape.meet(walled, 0, 0, 1, 1), 1);
        check.due("nobody is there", walled.hues(0), 0);
    }

    private void refused() {
        MissingLamps lamps = Tape.laid(QUAY);
        Tape.meet(lamps, 0, 0, 0, 0, 1, 0, 0, 0);
        int[][] bad = {{}, {0}, {0, 0, 0}, {0, 0, 0, 0, 0}, new int[68], {31, 0, 0, 0}, {0, 2, 0, 0}, {0, 0, 7, 0},
            {0, 0, 0, 3}, {0, 0, 0, 0, 255, 0, 0, 0}, {0, 0, 0, 0, 0, 0, 0, 255}};
        for (int k = 0; k < bad.length; k++) {
            check.due("bad rows " + k, Tape.meet(lamps, bad[k]), -1);
            check.due("refused", lamps.status(5), k + 1);
            check.due("rows stay", lamps.has(10), 2);
            check.due("hues stay", lamps.hues(0), 31);
            check.due("the tape is gone", lamps.end(1), false);
        }
        check.due("nobody", Tape.meet(Tape.laid("quay 3 by 3;lack a at 0 0 hue 1 high 0;"), 0, 0, 0, 0), -1);
        check.due("no quay", Tape.meet(new MissingLamps(), 0, 0, 0, 0), -1);
    }

    private void hues() {
        MissingLamps lamps = Tape.laid(QUAY);
        check.due("nothing met", lamps.hues(0), 511);
        Tape.meet(lamps, 1, 1, 4, 0);
        check.due("4 to 9", lamps.hues(0), 504);
        check.due("not by b", lamps.hues(1), 0);
        Tape.meet(lamps, 1, 1, 4, 0, 1, 0, 0, 0);
        check.due("4 and 5", lamps.hues(0), 24);
        Tape.meet(lamps, 1, 1, 0, 2);
        check.due("1 to 3", lamps.hues(0), 7);
        check.due("all by b", lamps.hues(1), 511);
        Tape.meet(lamps, 0, 0, 0, 0);
        check.due("where he is", lamps.hues(0), 511);
        Tape.meet(lamps, 0, 0, 1, 0);
        check.due("where he is not", lamps.hues(0), 0);
        check.due("thing 2", lamps.hues(2), -1);
        check.due("thing -1", lamps.hues(-1), -1);
        check.due("the hue stays", lamps.thing(0, 2), 1);
        // The hue counts in each rule, not in the glow alone.
        MissingLamps rules = Tape.laid("quay 3 by 3;pace 1;lack a at 0 0 hue 1 high 0;has a;glows 9;loses hue=3;"
                + "folk f at 0 0 home 2 2;");
        Tape.meet(rules, 2, 0, 1, 0);
        check.due("lost by hue 3", rules.hues(0), 4);
    }

    private void tells() {
        MissingLamps lamps = Tape.laid(QUAY);
        check.isTelling(lamps, 0, 1, 0, 5);
        Tape.meet(lamps, 1, 1, 4, 0);
        check.isTelling(lamps, 0, 1, 0, 4);
        Tape.meet(lamps, 1, 0, 0, 0);
        check.isTelling(lamps, 0, 1, 1, 3);
        Tape.meet(lamps, 1, 1, 4, 0, 1, 0, 0, 0);
        check.isTelling(lamps, 0, 1, 0, 2);
        Tape.meet(lamps, 0, 0, 1, 0);
        check.isTelling(lamps, 0, -1, -1, -1);
        check.due("tells 3", lamps.tells(0, 3), -1);
        check.due("tells -1", lamps.tells(0, -1), -1);
        check.isTelling(lamps, 2, -1, -1, -1);
        check.isTelling(lamps, -1, -1, -1, -1);
        check.isTelling(Tape.laid("quay 3 by 3;lack a at 0 0 hue 1 high 0;"), 0, -1, -1, -1);
    }

    private void tellsLikeOnes() {
        // b, not missing, tells nothing: the first night, the first of the folk.
        check.isTelling(Tape.laid(QUAY), 1, 1, 0, 9);
        // By hue h he goes from the night h + 1 on: behind 9 nights two hues at most leave him in one cell.
        MissingLamps slow = Tape.laid("quay 7 by 3;pace 1;lack a at 0 0 hue 1 high 0;has a;glows 9;loses age=hue;finds not all;"
                + "folk f at 6 2 home 6 2;folk g at 6 0 home 0 0;");
        check.due("g waits", slow.later(1, 2, 0), 6);
        check.due("g goes", slow.later(1, 3, 0), 5);
        check.isTelling(slow, 0, 9, 1, 2);
    }

    private void late() {
        MissingLamps lamps = Tape.late(QUAY, 989);
        Tape.meet(lamps, 10, 1, 4, 0);
        check.due("up to 999", lamps.hues(0), 504);
        Tape.meet(lamps, 11, 1, 4, 0);
        check.due("beyond 999", lamps.hues(0), 0);
        check.isTelling(lamps, 0, -1, -1, -1);
        MissingLamps last = Tape.late(QUAY, 999);
        check.due("nothing met", last.hues(0), 511);
        check.isTelling(last, 0, -1, -1, -1);
        check.isTelling(Tape.late(QUAY, 998), 0, 1, 0, 5);
    }

    private void stays() {
        MissingLamps lamps = Tape.laid(QUAY);
        lamps.lead(0, 1, 0);
        Tape.meet(lamps, 0, 0, 1, 0);
        check.due("led", lamps.hues(0), 511);
        lamps.undo();
        check.due("rows stay", lamps.has(10), 1);
        check.due("undone", lamps.hues(0), 0);
        check.due("on", Tape.on(lamps, Tape.image(lamps)), true);
        check.due("rows stay", lamps.has(10), 1);
        check.due("a new quay", Tape.quay(lamps, QUAY), 8);
        check.due("no rows", lamps.has(10), 0);
        check.due("all hues", lamps.hues(0), 511);
    }
}
