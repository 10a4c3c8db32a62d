/** Promises 14 to 18: losses, the worst, covers, sending, odds. */
public final class PlansTest {
    private static final String LINE = "quay 7 by 3;pace 9;";
    private final Check check = new Check();

    public static void main(String[] args) {
        PlansTest test = new PlansTest();
        test.losses();
        test.worst();
        test.cover();
        test.send();
        test.sendLikeOnes();
        test.odds();
        test.check.end();
    }

    private void losses() {
        String folk = "folk f at 0 0 home 6 0;folk g at 5 2 home 5 2;";
        String ends = LINE + "lack a at 0 0 hue 3 high 0;lack b at 6 0 hue 3 high 0;has a;has b;" + folk;
        check.due("both ends", Tape.laid(ends).losses(0, 1), 3);
        check.due("at home", Tape.laid(ends).losses(1, 20), 0);
        check.due("at home now", Tape.laid(ends).losses(1, 0), 0);
        check.due("not at home now", Tape.laid(ends).losses(0, 0), -1);
        MissingLamps more = Tape.laid(ends + "lack c at 3 0 hue 9 high 0;lack d at 3 1 hue 8 high 0;has c;has d;");
        check.due("one is fewer, the least bits", more.losses(0, 1), 4);
        check.due("nothing was lost", more.has(6), 0);
        more.lose(0);
        more.lose(1);
        check.due("what is missing is not lost again", more.losses(0, 1), 0);
        int[][] none = {{2, 1}, {-1, 1}, {0, -1}, {0, 21}};
        for (int[] one : none) {
            check.due("losses none", more.losses(one[0], one[1]), -1);
        }
        check.due("20 nights", more.losses(0, 20), 0);
        check.due("no set", Tape.laid(LINE + "lack a at 0 0 hue 1 high 0;has a;" + folk).losses(0, 20), -1);
        // What is lost now is missing for 0 nights: by then it glows far enough.
        MissingLamps grows = Tape.laid(LINE + "glows age*3;finds not all;lack a at 0 0 hue 1 high 0;has a;" + folk);
        check.due("behind 2", grows.losses(0, 2), -1);
        check.due("behind 3", grows.losses(0, 3), 1);
        grows.nights(5);
        check.due("behind 2, later", grows.losses(0, 2), -1);
        MissingLamps old = Tape.late(LINE + "lack a at 0 0 hue 9 high 0;has a;" + folk, 998);
        check.due("beyond 999", old.losses(0, 2), -1);
        check.due("up to 999", old.losses(0, 1), 1);
    }

    private void worst() {
        String folk = "folk f at 0 0 home 6 0;folk g at 1 2 home 0 2;folk h at 3 1 home 3 1;";
        MissingLamps lamps = Tape.laid(LINE + "finds not all;lack a at 0 2 hue 1 high 0;lack b at 0 0 hue 9 high 0;"
                + "lack c at 6 2 hue 1 high 0;" + folk);
        check.due("the far one", lamps.worst(1, 0), 1);
        check.due("two are home", lamps.worst(1, 1), 2);
        lamps.find(1);
        check.due("the near one", lamps.worst(1, 0), 0);
        check.due("one is home", lamps.worst(20, 1), 1);
        check.due("nothing was found", lamps.has(6), 2);
        MissingLamps alike = Tape.laid(LINE + "lack a at 0 0 hue 1 high 0;has a;lack b at 0 0 hue 9 high 0;"
                + "lack c at 0 0 hue 9 high 0;" + folk);
        check.due("the first", alike.worst(1, 0), 1);
        check.due("all are home", alike.worst(1, 1), 3);
        int[][] none = {{0, 0}, {21, 0}, {-1, 0}, {1, 2}, {1, -1}};
        for (int[] one : none) {
            check.due("worst none", lamps.worst(one[0], one[1]), -1);
        }
        MissingLamps nothing = Tape.laid(LINE + "lack a at 0 0 hue 1 high 0;has a;" + folk);
        check.due("nothing is missing", nothing.worst(1, 0), -1);
        check.due("nothing is missing", nothing.worst(1, 1), -1);
        MissingLamps nobody = Tape.laid(LINE + "lack a at 0 0 hue 1 high 0;");
        check.due("nobody", nobody.worst(1, 0), 0);
        check.due("nobody", nobody.worst(1, 1), 0);
        check.due("beyond 999", Tape.late(LINE + "lack a at 0 0 hue 1 high 0;", 990).worst(10, 0), -1);
        check.due("up to 999", Tape.late(LINE + "lack a at 0 0 hue 1 high 0;", 990).worst(9, 0), 0);
    }

    private void cover() {
        String two = LINE + "lack a at 0 0 hue 1 high 0;lack b at 1 0 hue 1 high 0;";
        check.due("both", Tape.laid(two).cover(), 3);
        check.due("one for both", Tape.laid(two + "lack c at 0 0 hue 3 high 0;").cover(), 4);
        check.due("the least bits", Tape.laid(two + "lack c at 0 0 hue 3 high 0;lack d at 0 0 hue 3 high 0;").cover(), 4);
        check.due("one that hangs", Tape.laid(two + "lack c at 0 0 hue 3 high 0;lack d at 0 0 hue 3 high 0;has c;").cover(), 8);
        check.due("nothing is lit", Tape.laid(two + "has a;has b;").cover(), 0);
        check.due("no thing", Tape.laid(LINE).cover(), 0);
        check.due("the first of all", Tape.laid(LINE + "lack z at 0 0 hue 9 high 0;lack y at 0 0 hue 9 high 0;").cover(), 1);
        String walled = "lack a at 0 0 hue 1 high 0;lack b at 0 1 hue 1 high 0;";
        check.due("a wall needs no light", Tape.laid("quay 3 by 3;wall 1 0;" + walled).cover(), 2);
        check.due("a cell does", Tape.laid("quay 3 by 3;" + walled).cover(), 3);
    }

    private void send() {
        // The nearest for the first would cost the second more.
        check.isSent(Tape.laid(LINE + "lack a at 2 0 hue 1 high 0;lack b at 0 0 hue 1 high 0;"
                + "folk f at 1 0 home 0 0;folk g at 4 0 home 0 0;"), 2, 3, 1, 0);
        // All that can go, even if it is far: dark or not.
        check.isSent(Tape.laid(LINE + "lack a at 0 0 hue 1 high 0;lack b at 6 2 hue 1 high 0;"
                + "folk f at 0 1 home 0 0;folk g at 0 2 home 0 0;"), 2, 7, 0, 1);
        // A thing behind walls, and one that is not missing.
        check.isSent(Tape.laid(LINE + "wall 1 0;wall 0 1;lack a at 0 0 hue 1 high 0;lack b at 2 0 hue 1 high 0;has b;"
                + "lack c at 4 0 hue 1 high 0;folk f at 2 0 home 2 0;folk g at 2 1 home 2 1;"), 1, 2, 2, -1);
        // Around a wall.
        check.isSent(Tape.laid(LINE + "wall 1 0;wall 1 1;lack a at 0 0 hue 1 high 0;folk f at 2 0 home 2 0;"), 1, 6, 0);
        check.isSent(Tape.laid(LINE + "folk f at 2 0 home 2 0;"), 0, 0, -1);
        check.isSent(Tape.laid(LINE + "lack a at 0 0 hue 1 high 0;"), 0, 0);
        check.isSent(new MissingLamps(), 0, 0);
    }

    private void sendLikeOnes() {
        String pair = "folk f at 3 0 home 0 0;folk g at 3 0 home 0 0;";
        check.isSent(Tape.laid(LINE + "lack a at 2 0 hue 1 high 0;lack b at 4 0 hue 1 high 0;" + pair), 2, 2, 0, 1);
        check.isSent(Tape.laid(LINE + "lack a at 2 0 hue 1 high 0;" + pair), 1, 1, -1, 0);
        check.isSent(Tape.laid(LINE + "lack a at 2 0 hue 1 high 0;lack b at 4 0 hue 1 high 0;lack c at 3 1 hue 1 high 0;" + pair),
                2, 2, 0, 1);
        StringBuilder all = new StringBuilder(LINE);
        for (int t = 0; t < 9; t++) {
            all.append("lack x").append((char) ('a' + t)).append(" at 0 0 hue 1 high 0;");
        }
        for (int f = 0; f < 6; f++) {
            all.append("folk y").append((char) ('a' + f)).append(" at 6 2 home 0 0;");
        }
        check.isSent(Tape.laid(all.toString()), 6, 48, 0, 1, 2, 3, 4, 5);
    }

    private void odds() {
        String quay = LINE + "lack a at 0 0 hue 9 high 0;lack b at 1 0 hue 1 high 0;lack c at 1 0 hue 9 high 0;has c;"
                + "folk f at 0 0 home 6 0;folk g at 2 0 home 1 0;folk h at 3 0 home 3 0;";
        MissingLamps lamps = Tape.laid(quay + "gale 30;");
        check.due("all rows", lamps.odds(-1), 300);
        check.due("by one lantern", lamps.odds(0), 70 * 3 + 30 * 2);
        check.due("by either", lamps.odds(1), 300);
        check.due("at home", lamps.odds(2), 300);
        check.due("none such", lamps.odds(3), -1);
        check.due("none such", lamps.odds(-2), -1);
        check.due("no gale", Tape.laid(quay).odds(0), 300);
        check.due("gale 100", Tape.laid(quay + "gale 100;").odds(0), 200);
        check.due("without things", Tape.laid(LINE + "folk f at 0 0 home 0 0;").odds(0), -1);
        check.due("without things", Tape.laid(LINE).odds(-1), -1);
        check.due("night 998", Tape.late(quay, 998).odds(-1), 300);
        check.due("beyond 999", Tape.late(quay, 999).odds(-1), -1);
        check.due("beyond 999", Tape.late(quay, 999).odds(2), -1);
        check.due("the seed stays", lamps.has(12), 1);
    }
}
