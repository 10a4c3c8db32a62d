/** Terms III: each sentence about what is ahead, losses, covers, sending, odds, hues and images that names an edge. */
public final class PlanEdgesTest {
    // Two roads of ten steps around a block of walls; each needs two of the first four things, the last lights the home.
    private static final String TWO_ROADS = "quay 7 by 5;pace 9;" + block()
            + "lack a at 1 0 hue 2 high 0;lack b at 1 4 hue 2 high 0;lack c at 5 4 hue 2 high 0;lack d at 5 0 hue 2 high 0;"
            + "lack e at 6 2 hue 1 high 0;has a;has b;has c;has d;finds not all;folk f at 0 2 home 6 2;";
    private static final String MET_QUAY = "quay 5 by 4;wall 4 3;lack a at 0 0 hue 1 high 0;folk f at 1 2 home 0 0;"
            + "folk g at 1 2 home 0 0;";
    private final Check check = new Check();

    public static void main(String[] args) {
        PlanEdgesTest test = new PlanEdgesTest();
        test.fortyAhead();
        test.aheadToTheLastNight();
        test.aheadWithoutDraws();
        test.fewestLosses();
        test.leastBitsOfLosses();
        test.lossesAreNow();
        test.allLosses();
        test.fewestAtHome();
        test.firstOfTheWorst();
        test.fewestThatCover();
        test.leastBitsOfCovers();
        test.coverOfNothing();
        test.asManyAsCanBe();
        test.fewestSteps();
        test.firstRow();
        test.sendThroughWallsNever();
        test.sendAgainAndAgain();
        test.rowsOfOdds();
        test.oddsByPace();
        test.metNights();
        test.metRows();
        test.badMetRows();
        test.allIsSo();
        test.latestRowsAlone();
        test.nineHues();
        test.tellingNights();
        test.tellingLikeOnes();
        test.oneHueLeft();
        test.imageBytes();
        test.check.end();
    }

    private static String block() {
        StringBuilder text = new StringBuilder();
        for (int column = 1; column <= 5; column++) {
            for (int row = 1; row <= 3; row++) {
                text.append("wall ").append(column).append(' ').append(row).append(';');
            }
        }
        return text.toString();
    }

    private void fortyAhead() {
        check.of("AHEAD: 40 at most");
        // A thing is lost in the 39th night: in the 40th one goes home, in the 41st the other one.
        MissingLamps lamps = Tape.laid("quay 3 by 3;pace 1;lack a at 1 1 hue 9 high 0;has a;loses age=38;finds not all;"
                + "folk f at 0 0 home 1 0;folk g at 0 0 home 2 0;");
        check.due("home behind 40", lamps.home(0), 40);
        check.due("home behind 41", lamps.home(1), -1);
        check.willBeAt(lamps, 1, 39, 0, 0);
        check.willBeAt(lamps, 1, 40, 1, 0);
        check.willBeAt(lamps, 1, 41, -1, -1);
        check.due("missing behind 38", lamps.missing(0, 38), 0);
        check.due("missing behind 39", lamps.missing(0, 39), 1);
        check.due("missing behind 40", lamps.missing(0, 40), 1);
        check.due("missing behind 41", lamps.missing(0, 41), -1);
        lamps.nights(1);
        check.due("home behind 40 more", lamps.home(1), 40);
    }

    private void aheadToTheLastNight() {
        check.of("AHEAD: not beyond NIGHT 999");
        String text = "quay 7 by 3;pace 1;lack a at 0 0 hue 9 high 0;finds not all;folk f at 0 0 home 6 0;";
        for (int night : new int[] {958, 959, 960, 993, 994, 998, 999}) {
            MissingLamps lamps = Tape.late(text, night);
            int most = Math.min(40, 999 - night);
            check.willBeAt(lamps, 0, 0, 0, 0);
            check.willBeAt(lamps, 0, most, Math.min(6, most), 0);
            check.willBeAt(lamps, 0, most + 1, -1, -1);
            check.due("missing", lamps.missing(0, most), 1);
            check.due("missing beyond", lamps.missing(0, most + 1), -1);
            check.due("home at " + night, lamps.home(0), most >= 6 ? 6 : -1);
        }
    }

    private void aheadWithoutDraws() {
        check.of("AHEAD: without DRAWS");
        MissingLamps lamps = Tape.laid("quay 7 by 3;pace 1;gale 100;lack a at 0 0 hue 9 high 0;finds not all;"
                + "folk f at 0 0 home 6 0;lack b at 0 0 hue 9 high 0;has b;");
        check.willBeAt(lamps, 0, 4, 4, 0);
        check.due("home", lamps.home(0), 6);
        check.due("losses", lamps.losses(0, 6), 0);
        check.due("worst", lamps.worst(6, 0), 0);
        check.due("hues", lamps.hues(0), 511);
        check.due("tells", lamps.tells(0, 0), 1);
        check.due("odds", lamps.odds(0), 0);
        check.due("nights", lamps.nights(2), 0);
        check.isAt(lamps, 0, 2, 0);
        check.due("the seed", lamps.has(12), 1);
    }

    private void fewestLosses() {
        check.of("LOSSES: the fewest THINGS that are not MISSING, LOST now, so that he is at home behind n NIGHTS");
        String row = "quay 7 by 3;pace 9;glows hue-1;finds not all;folk f at 0 0 home 3 0;lack a at 1 0 hue 1 high 0;"
                + "lack b at 2 0 hue 1 high 0;lack c at 3 0 hue 1 high 0;";
        check.due("three", Tape.laid(row + "has a;has b;has c;").losses(0, 1), 7);
        check.due("two, one is missing", Tape.laid(row + "has a;has c;").losses(0, 1), 5);
        check.due("none, all are missing", Tape.laid(row).losses(0, 1), 0);
        check.due("one that lights all", Tape.laid(row + "has a;has b;has c;lack d at 2 0 hue 2 high 0;has d;").losses(0, 1), 8);
        check.due("none that is not there", Tape.laid("quay 7 by 3;pace 9;glows lost*3;finds not all;lack a at 0 0 hue 1 high 0;"
                + "folk f at 0 0 home 6 0;").losses(0, 1), -1);
        check.due("two, though more bits", Tape.laid(row + "has a;has b;has c;lack d at 2 0 hue 1 high 0;has d;"
                + "lack e at 1 1 hue 3 high 0;has e;").losses(0, 1), 20);
    }

    private void leastBitsOfLosses() {
        check.of("LOSSES: of like ones the least bits");
        MissingLamps lamps = Tape.laid(TWO_ROADS);
        check.due("b and c, not a and d", lamps.losses(0, 2), 6);
        check.due("behind 20", lamps.losses(0, 20), 6);
        check.due("behind one: ten steps", lamps.losses(0, 1), -1);
        lamps.lose(0);
        check.due("a is missing: d alone", lamps.losses(0, 2), 8);
        lamps.lose(2);
        check.due("a and c are missing: b, not d", lamps.losses(0, 2), 2);
    }

    private void lossesAreNow() {
        check.of("LOSSES: LOST now");
        MissingLamps lamps = Tape.laid("quay 3 by 3;pace 9;glows age*9;finds not all;lack a at 0 0 hue 1 high 0;has a;"
                + "folk f at 0 0 home 2 2;");
        lamps.nights(3);
        // Missing for 0 nights: it lights its own cell alone in the first night.
        check.due("behind 1", lamps.losses(0, 1), -1);
        check.due("behind 2", lamps.losses(0, 2), 1);
        check.due("nothing is lost by the question", lamps.has(6), 0);
        check.due("nothing is kept", lamps.has(9), 0);
    }

    private void allLosses() {
        check.of("LOSSES: as bits, of all nine");
        StringBuilder text = new StringBuilder("quay 7 by 3;pace 9;glows 0;finds not all;folk f at 0 1 home 6 2;");
        int[][] cells = {{0, 0}, {1, 0}, {2, 0}, {3, 0}, {4, 0}, {5, 0}, {6, 0}, {6, 1}, {6, 2}};
        for (int t = 0; t < 9; t++) {
            char name = (char) ('k' + t);
            text.append("lack x").append(name).append(" at ").append(cells[t][0]).append(' ').append(cells[t][1]);
            text.append(" hue 1 high 0;has x").append(name).append(';');
        }
        check.due("all", Tape.laid(text.toString()).losses(0, 1), 511);
        check.due("without one there is no set", Tape.laid(text.toString().replace("at 3 0", "at 3 1")).losses(0, 1), -1);
    }

    private void fewestAtHome() {
        check.of("WORST: FOUND now, by which the fewest of the FOLK are at home behind n NIGHTS");
        StringBuilder text = new StringBuilder("quay 7 by 3;pace 1;glows hue-1;finds not all;");
        for (int t = 0; t < 9; t++) {
            text.append("lack x").append((char) ('a' + t)).append(" at ").append(t % 7).append(' ').append(t < 7 ? 0 : 2);
            text.append(" hue ").append(t == 8 ? 2 : 1).append(" high 0;");
        }
        text.append("folk a at 0 0 home 1 0;folk b at 2 2 home 1 2;folk c at 3 2 home 2 2;folk d at 4 1 home 4 0;");
        MissingLamps lamps = Tape.laid(text.toString());
        check.due("the ninth, by whose lantern two go home", lamps.worst(1, 0), 8);
        check.due("two are home then", lamps.worst(1, 1), 2);
        lamps.find(8);
        check.due("the second, by whose lantern one goes home", lamps.worst(1, 0), 1);
        check.due("one is home then", lamps.worst(1, 1), 1);
        check.due("all are missing all the same", lamps.has(6), 8);
    }

    private void firstOfTheWorst() {
        check.of("WORST: of like ones the first");
        MissingLamps lamps = Tape.laid("quay 3 by 3;" + Tape.things(9) + "has a;has b;folk p at 1 1 home 1 1;");
        check.due("the first that is missing", lamps.worst(1, 0), 2);
        check.due("one is home", lamps.worst(1, 1), 1);
        check.due("behind 20", lamps.worst(20, 0), 2);
    }

    private void fewestThatCover() {
        check.of("COVER: the fewest THINGS that are MISSING whose LANTERNS light all that is LIT now");
        String two = "quay 7 by 3;lack a at 5 2 hue 1 high 0;lack b at 6 2 hue 1 high 0;";
        check.due("each lights some alone", Tape.laid(two).cover(), 3);
        check.due("one lights all", Tape.laid(two + "lack c at 6 2 hue 9 high 0;").cover(), 4);
        check.due("two of three", Tape.laid("quay 7 by 3;lack a at 0 1 hue 2 high 0;lack b at 3 1 hue 1 high 0;"
                + "lack c at 4 1 hue 3 high 0;").cover(), 5);
        check.due("one of two, far from the first cell", Tape.laid("quay 7 by 3;lack a at 5 2 hue 1 high 0;"
                + "lack b at 5 2 hue 2 high 0;lack c at 0 0 hue 9 high 0;has c;").cover(), 2);
        check.due("one of one", Tape.laid("quay 7 by 3;lack a at 6 2 hue 1 high 0;").cover(), 1);
        check.due("all nine, far from one another", Tape.laid("quay 7 by 7;glows 0;" + spread()).cover(), 511);
    }

    private static String spread() {
        StringBuilder text = new StringBuilder();
        for (int t = 0; t < 9; t++) {
            text.append("lack x").append((char) ('a' + t)).append(" at ").append(t % 7).append(' ').append(t / 7 + 3);
            text.append(" hue 1 high 0;");
        }
        return text.toString();
    }

    private void leastBitsOfCovers() {
        check.of("COVER: of like ones the least bits");
        // Each lights all between the corners, and two corners.
        String four = "quay 3 by 3;wall 1 1;lack a at 1 0 hue 2 high 0;lack b at 0 1 hue 2 high 0;lack c at 2 1 hue 2 high 0;"
                + "lack d at 1 2 hue 2 high 0;";
        check.due("b and c, not a and d", Tape.laid(four).cover(), 6);
        check.due("three corners", Tape.laid(four + "has b;").cover(), 9);
        check.due("the first of nine alike", Tape.laid("quay 3 by 3;" + Tape.things(9)).cover(), 1);
        check.due("the first that is missing", Tape.laid("quay 3 by 3;" + Tape.things(9) + "has a;has b;").cover(), 4);
    }

    private void coverOfNothing() {
        check.of("cover(): 0 when nothing is LIT");
        check.due("no quay", new MissingLamps().cover(), 0);
        check.due("no things", Tape.laid("quay 3 by 3;").cover(), 0);
        check.due("none is missing", Tape.laid("quay 3 by 3;" + Tape.things(2) + "has a;has b;").cover(), 0);
    }

    private void asManyAsCanBe() {
        check.of("SEND: no two for one, no one two, for as many of the FOLK as can be");
        // More folk than things, as many, fewer.
        for (int things = 0; things <= 3; things++) {
            int sent = Math.min(things, 2);
            MissingLamps lamps = Tape.laid("quay 3 by 3;" + Tape.things(things) + Tape.folk(2));
            check.isSent(lamps, sent, 0, things == 2 || things == 3 ? 0 : -1, things == 0 ? -1 : things == 1 ? 0 : 1);
        }
        // Two are sent by nine steps, though one would go by none.
        check.isSent(Tape.laid("quay 7 by 4;wall 1 0;wall 1 1;wall 1 2;wall 0 3;lack a at 0 0 hue 1 high 0;lack b at 6 3 hue 1 high 0;"
                + "folk f at 0 0 home 0 0;folk g at 0 2 home 0 0;"), 1, 0, 0, -1);
        check.isSent(Tape.laid("quay 7 by 4;wall 1 0;lack a at 0 0 hue 1 high 0;lack b at 6 3 hue 1 high 0;"
                + "folk f at 0 0 home 0 0;folk g at 0 2 home 0 0;"), 2, 7, 0, 1);
        // The first can go to a alone, so the second goes far, though a is next to him.
        check.isSent(Tape.laid("quay 5 by 3;wall 1 0;wall 1 1;lack a at 0 0 hue 1 high 0;lack b at 4 0 hue 1 high 0;has b;"
                + "lack c at 4 2 hue 1 high 0;folk f at 0 0 home 0 0;folk g at 0 1 home 0 0;"), 2, 5, 0, 2);
    }

    private void fewestSteps() {
        check.of("SEND: by the fewest steps together");
        check.isSent(Tape.laid("quay 7 by 3;lack a at 3 0 hue 1 high 0;lack b at 1 0 hue 1 high 0;"
                + "folk f at 2 0 home 0 0;folk g at 6 0 home 0 0;"), 2, 4, 1, 0);
        check.isSent(Tape.laid("quay 7 by 3;lack a at 0 0 hue 1 high 0;lack b at 3 0 hue 1 high 0;lack c at 6 0 hue 1 high 0;"
                + "folk f at 5 0 home 0 0;folk g at 4 0 home 0 0;folk h at 1 0 home 0 0;"), 3, 3, 2, 1, 0);
    }

    private void firstRow() {
        check.of("SEND: of like ones the first row (FOLK by FOLK none, then THINGS by numbers)");
        String middle = "folk f at 3 1 home 0 0;folk g at 3 1 home 0 0;folk h at 3 1 home 0 0;";
        check.isSent(Tape.laid("quay 7 by 3;lack a at 3 0 hue 1 high 0;" + middle), 1, 1, -1, -1, 0);
        check.isSent(Tape.laid("quay 7 by 3;lack a at 3 0 hue 1 high 0;lack b at 3 2 hue 1 high 0;" + middle), 2, 2, -1, 0, 1);
        check.isSent(Tape.laid("quay 7 by 3;lack a at 3 0 hue 1 high 0;lack b at 3 2 hue 1 high 0;lack c at 2 1 hue 1 high 0;"
                + "lack d at 4 1 hue 1 high 0;" + middle), 3, 3, 0, 1, 2);
        // None comes first only where as many go by as few steps.
        check.isSent(Tape.laid("quay 7 by 3;lack a at 3 0 hue 1 high 0;folk f at 3 0 home 0 0;folk g at 3 1 home 0 0;"),
                1, 0, 0, -1);
    }

    private void sendThroughWallsNever() {
        check.of("SEND: through walls never, LIT or not");
        // Eleven steps around the walls, all dark but the thing's own cell.
        check.isSent(Tape.laid("quay 3 by 7;glows 0;wall 1 0;wall 1 1;wall 1 2;wall 1 3;wall 1 4;lack a at 2 1 hue 1 high 0;"
                + "folk f at 0 0 home 0 0;"), 1, 11, 0);
        check.isSent(Tape.laid("quay 3 by 3;wall 1 0;wall 1 1;wall 1 2;lack a at 2 0 hue 9 high 0;folk f at 0 0 home 0 0;"),
                0, 0, -1);
    }

    private void sendAgainAndAgain() {
        check.of("SEND: by what is MISSING, and where FOLK are now");
        MissingLamps lamps = Tape.laid("quay 7 by 3;" + Tape.things(9) + "folk n at 6 0 home 0 0;folk o at 6 1 home 0 0;"
                + "folk p at 6 2 home 0 0;");
        check.isSent(lamps, 3, 21, 0, 1, 2);
        for (int t = 0; t < 9; t++) {
            lamps.find(t);
        }
        check.isSent(lamps, 0, 0, -1, -1, -1);
        lamps.lose(8);
        check.isSent(lamps, 1, 6, 8, -1, -1);
        lamps.lead(2, 0, 0);
        check.isSent(lamps, 1, 0, -1, -1, 8);
        lamps.lose(3);
        check.isSent(lamps, 2, 6, 3, -1, 8);
        lamps.undo();
        check.isSent(lamps, 1, 0, -1, -1, 8);
        Tape.quay(lamps, "quay 3 by 3;lack z at 2 2 hue 1 high 0;folk y at 0 0 home 0 0;folk x at 2 1 home 0 0;");
        check.isSent(lamps, 1, 1, -1, 0);
        Tape.quay(lamps, "quay 3 by 3;lack z at 2 2 hue 1 high 0;folk y at 0 0 home 0 0;folk x at 2 2 home 0 0;");
        check.isSent(lamps, 1, 0, -1, 0);
        Tape.quay(lamps, "quay 3 by 3;lack z at 2 2 hue 1 high 0;folk y at 0 0 home 0 0;");
        check.isSent(lamps, 1, 4, 0);
    }

    private void rowsOfOdds() {
        check.of("ODDS: by how many of all rows of a number below 100, a THING");
        for (int things = 1; things <= 9; things++) {
            for (int gale : new int[] {0, 1, 37, 100}) {
                // By the last thing's lantern alone he gets home.
                MissingLamps lamps = Tape.laid("quay 3 by 3;gale " + gale + ";glows hue-1;finds not all;"
                        + Tape.things(things - 1) + "lack z at 2 2 hue 9 high 0;folk p at 1 1 home 2 2;folk q at 1 1 home 1 1;");
                check.due("all rows", lamps.odds(-1), 100 * things);
                check.due("by one lantern", lamps.odds(0), 100 * things - gale);
                check.due("at home", lamps.odds(1), 100 * things);
                check.due("none such", lamps.odds(2), -1);
            }
        }
        check.of("ODDS: he is at home behind the next NIGHT");
        MissingLamps two = Tape.laid("quay 3 by 3;gale 40;lack a at 0 0 hue 9 high 0;lack b at 0 0 hue 9 high 0;folk f at 0 0 home 2 0;");
        check.due("by either lantern", two.odds(0), 200);
        MissingLamps dark = Tape.laid("quay 3 by 3;gale 40;lack a at 0 0 hue 9 high 0;has a;folk f at 0 0 home 2 0;");
        check.due("in the dark", dark.odds(0), 0);
        check.due("all rows", dark.odds(-1), 100);
    }

    private void oddsByPace() {
        check.of("ODDS: behind the next NIGHT, by pace");
        String text = "quay 7 by 3;gale 10;lack a at 0 0 hue 9 high 0;folk f at 0 0 home 4 0;pace ";
        check.due("too far by a step", Tape.laid(text + "3;").odds(0), 0);
        check.due("just near enough", Tape.laid(text + "4;").odds(0), 90);
    }

    private void metNights() {
        check.of("MET: NIGHTS AHEAD (0 .. 30)");
        MissingLamps lamps = Tape.laid("quay 7 by 3;pace 1;glows 9;finds not all;lack a at 0 0 hue 1 high 0;has a;loses age=28 and hue=4;"
                + "folk f at 0 0 home 6 0;");
        check.due("0", Tape.meet(lamps, 0, 0, 0, 0), 1);
        check.due("where he is now", lamps.hues(0), 511);
        check.due("29", Tape.meet(lamps, 29, 0, 0, 0), 1);
        check.due("not yet", lamps.hues(0), 511);
        check.due("30", Tape.meet(lamps, 30, 0, 1, 0), 1);
        check.due("by hue 4", lamps.hues(0), 8);
        check.due("31", Tape.meet(lamps, 31, 0, 2, 0), -1);
        check.due("what was met stays", lamps.hues(0), 8);
        check.due("255", Tape.meet(lamps, 255, 0, 2, 0), -1);
    }

    private void metRows() {
        check.of("meet(): 1 to 16 rows of four bytes");
        MissingLamps lamps = Tape.laid(MET_QUAY);
        int refused = 0;
        for (int bytes = 0; bytes <= 72; bytes++) {
            int[] rows = new int[bytes];
            for (int k = 0; k < bytes; k++) {
                rows[k] = k % 4 < 2 ? 0 : k % 4 == 2 ? 1 : 2;
            }
            boolean good = bytes >= 4 && bytes <= 64 && bytes % 4 == 0;
            refused += good ? 0 : 1;
            check.due(bytes + " bytes", Tape.meet(lamps, rows), good ? bytes / 4 : -1);
            check.due("refused", lamps.status(5), refused);
        }
    }

    private void badMetRows() {
        check.of("meet(): NONE, refused (5), when it is none such");
        MissingLamps lamps = Tape.laid(MET_QUAY);
        check.due("16 rows", Tape.meet(lamps, new int[64]), 16);
        check.due("he is not there", lamps.hues(0), 0);
        int[][] bad = {{31, 1, 0, 0}, {0, 2, 0, 0}, {0, 3, 0, 0}, {0, 255, 0, 0}, {0, 0, 5, 0}, {0, 0, 6, 0}, {0, 0, 255, 0},
            {0, 0, 0, 4}, {0, 0, 0, 5}, {0, 0, 0, 255}};
        for (int[] row : bad) {
            check.due("a bad row", Tape.meet(lamps, row), -1);
            int[] last = new int[64];
            System.arraycopy(row, 0, last, 60, 4);
            check.due("the last row is bad", Tape.meet(lamps, last), -1);
            System.arraycopy(row, 0, last, 0, 4);
            check.due("the first row is bad", Tape.meet(lamps, last), -1);
        }
        check.due("refused", lamps.status(5), 3 * bad.length);
        check.due("rows stay", lamps.has(10), 16);
        check.due("the last that can be", Tape.meet(lamps, 30, 1, 4, 3), 1);
        check.due("he is never in a wall", lamps.hues(0), 0);
    }

    private void allIsSo() {
        check.of("HUES: so that all is so");
        // By hue h a lantern lights the row up to column h: by hue 3 the first gets home, by hue 5 the second.
        MissingLamps lamps = Tape.laid("quay 7 by 3;pace 9;finds not all;lack a at 0 0 hue 1 high 0;lack b at 6 2 hue 1 high 0;has b;"
                + "folk f at 0 0 home 3 0;folk g at 0 0 home 5 0;");
        int[][] rows = {{1, 0, 3, 0}, {1, 0, 0, 0}, {1, 1, 5, 0}, {1, 1, 0, 0}, {2, 1, 0, 0, 2, 0, 3, 0},
            {1, 0, 3, 0, 1, 0, 0, 0}, {0, 0, 0, 0, 0, 1, 0, 0}, {0, 0, 0, 1}, {1, 0, 2, 0}, {30, 1, 5, 0, 30, 0, 3, 0}};
        int[] due = {508, 3, 496, 15, 12, 0, 511, 0, 0, 496};
        for (int k = 0; k < rows.length; k++) {
            Tape.meet(lamps, rows[k]);
            check.due("hues by rows " + k, lamps.hues(0), due[k]);
        }
        check.of("HUES: NIGHTS AHEAD are those from now on");
        Tape.meet(lamps, 1, 0, 3, 0);
        lamps.lead(0, 0, 1);
        check.due("led away", lamps.hues(0), 508);
        lamps.find(0);
        check.due("found", lamps.hues(0), 0);
        lamps.undo();
        lamps.undo();
        check.due("undone", lamps.hues(0), 508);
    }

    private void latestRowsAlone() {
        check.of("MET: the rows of the latest meet() alone");
        MissingLamps lamps = Tape.late("quay 3 by 3;" + Tape.things(1) + Tape.folk(1), 990);
        Tape.meet(lamps, 0, 0, 0, 0, 30, 0, 0, 0, 0, 0, 1, 1);
        check.due("beyond 999", lamps.hues(0), 0);
        Tape.meet(lamps, 9, 0, 0, 0);
        check.due("one row, to 999", lamps.hues(0), 511);
        Tape.meet(lamps, 9, 0, 0, 0, 8, 0, 0, 0);
        check.due("two rows", lamps.hues(0), 511);
    }

    private void nineHues() {
        check.of("HUES (1 .. 9)");
        // His place behind 2 nights tells how the hue is, from 1 on.
        for (int hue = 1; hue <= 9; hue++) {
            MissingLamps lamps = Tape.laid("quay 3 by 3;pace 1;glows 9;finds not all;lack a at 0 0 hue 1 high 0;has a;loses hue=" + hue
                    + ";folk f at 0 0 home 2 0;");
            Tape.meet(lamps, 2, 0, 1, 0);
            check.due("hue " + hue, lamps.hues(0), 1 << hue - 1);
            check.due("the told hue stays", lamps.thing(0, 2), 1);
            check.due("nothing was lost", lamps.has(6), 0);
        }
    }

    private void tellingNights() {
        check.of("TELLING is the number of NIGHTS AHEAD (1 .. 30)");
        String text = "quay 7 by 3;pace 1;glows 9;finds not all;lack a at 0 0 hue 1 high 0;has a;folk f at 6 2 home 6 2;"
                + "folk g at 0 0 home 6 0;";
        // Lost in the night 29, so that he goes in the night 30, if the hue is above 4; or each a night later.
        check.isTelling(Tape.laid(text + "loses age=28 and hue>4;"), 0, 30, 1, 5);
        check.isTelling(Tape.laid(text + "loses age=29 and hue>4;"), 0, 1, 0, 9);
        check.isTelling(Tape.laid(text + "lack b at 0 0 hue 9 high 0;"), 0, 1, 0, 9);
        // The last night ahead of 999.
        String late = "quay 7 by 3;pace 1;glows 9;finds not all;lack a at 0 0 hue 1 high 0;has a;folk f at 0 0 home 6 0;";
        check.isTelling(Tape.late(late + "loses night=997 and hue>7;", 997), 0, 2, 0, 7);
        check.isTelling(Tape.late(late + "loses night=998 and hue>7;", 997), 0, 1, 0, 9);
        check.isTelling(Tape.late(late + "loses night=998 and hue>7;", 999), 0, -1, -1, -1);
    }

    private void tellingLikeOnes() {
        check.of("TELLING: of like ones the first, NIGHT by NIGHT, FOLK by FOLK");
        // Both of the last two tell the same in each night from the second on.
        MissingLamps lamps = Tape.laid("quay 7 by 3;pace 1;glows 9;finds not all;lack a at 0 0 hue 1 high 0;has a;loses hue>6;"
                + "folk f at 6 2 home 6 2;folk g at 0 0 home 6 0;folk h at 0 1 home 6 1;");
        check.isTelling(lamps, 0, 2, 1, 6);
        check.of("TELLING: the most of these left are fewest");
        // In the second night two cells, in the third three of them.
        MissingLamps more = Tape.laid("quay 7 by 3;pace 1;glows 9;finds not all;lack a at 0 0 hue 1 high 0;has a;"
                + "loses hue>6 or hue>3 and age=1;folk f at 0 0 home 6 0;");
        check.isTelling(more, 0, 3, 0, 3);
        Tape.meet(more, 2, 0, 0, 0);
        check.due("1 to 6", more.hues(0), 63);
        check.isTelling(more, 0, 3, 0, 3);
        Tape.meet(more, 2, 0, 1, 0);
        check.due("7 to 9", more.hues(0), 448);
        check.isTelling(more, 0, 1, 0, 3);
    }

    private void oneHueLeft() {
        check.of("TELLING of one HUE that is left");
        MissingLamps lamps = Tape.laid("quay 7 by 3;pace 1;glows 9;finds not all;lack a at 0 0 hue 1 high 0;has a;loses hue=9;"
                + "folk f at 0 0 home 6 0;");
        Tape.meet(lamps, 2, 0, 1, 0);
        check.due("hue 9", lamps.hues(0), 256);
        check.isTelling(lamps, 0, 1, 0, 1);
        check.due("what 3", lamps.tells(0, 3), -1);
    }

    private void imageBytes() {
        check.of("AN IMAGE: NIGHT (two bytes, the higher first)");
        for (int night : new int[] {0, 1, 255, 256, 257, 511, 512, 768, 998, 999}) {
            check.isImage(Tape.late("quay 3 by 3;", night), Tape.sealed(night / 256, night % 256));
        }
        check.of("for each THING 1 if it is MISSING, else 0, for how many NIGHTS; for each of the FOLK column, row");
        MissingLamps lamps = Tape.laid("quay 7 by 5;" + Tape.things(9) + "has b;has i;folk s at 6 0 home 6 0;folk t at 0 4 home 0 4;");
        lamps.nights(7);
        lamps.find(2);
        lamps.lead(0, 5, 3);
        check.isImage(lamps, Tape.sealed(0, 7, 1, 7, 0, 7, 0, 0, 1, 7, 1, 7, 1, 7, 1, 7, 1, 7, 0, 7, 5, 3, 0, 4));
        check.of("last a byte: all ahead from 241 on, c = (5 c + it) mod 251");
        // 241, 201, 1, 6, 30, 150.
        MissingLamps one = Tape.laid("quay 3 by 3;" + Tape.things(1));
        check.isImage(one, 0, 0, 1, 0, 30);
    }
}
