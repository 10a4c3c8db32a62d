/** Terms II: each sentence about cells, lanterns, the road, nights, draws, acts and what is kept that names an edge. */
public final class NightEdgesTest {
    // Rows 1, 3 and 5 are walls but for one end: 30 steps from the first cell to the last row's first.
    private static final String SNAKE = "quay 7 by 7;" + wallsBut(1, 6) + wallsBut(3, 0) + wallsBut(5, 6)
            + "lack a at 0 0 hue 9 high 0;lack b at 6 6 hue 9 high 0;finds not all;folk f at 0 0 home 0 6;";
    private final Check check = new Check();

    public static void main(String[] args) {
        NightEdgesTest test = new NightEdgesTest();
        test.nextToOneAnother();
        test.noWrapAround();
        test.ways();
        test.missingAtFirst();
        test.glowLights();
        test.glowBounds();
        test.glowOfHue();
        test.lightAndWalls();
        test.roadNone();
        test.roadInto();
        test.longRoad();
        test.stepsIntoLit();
        test.paceTillHome();
        test.staysWithoutRoad();
        test.litAhead();
        test.atOnce();
        test.findsWithout();
        test.losesWithout();
        test.sinceThen();
        test.ninetyNine();
        test.lastNight();
        test.draws();
        test.belowGale();
        test.blownLantern();
        test.keptRows();
        test.fortyKept();
        test.twentyActs();
        test.actsComeAndGo();
        test.check.end();
    }

    private static String wallsBut(int row, int gap) {
        StringBuilder text = new StringBuilder();
        for (int column = 0; column < 7; column++) {
            if (column != gap) {
                text.append("wall ").append(column).append(' ').append(row).append(';');
            }
        }
        return text.toString();
    }

    private void nextToOneAnother() {
        check.of("CELLS are next to one another that have a side in common");
        String corners = "quay 3 by 3;glows 0;lack a at 1 1 hue 1 high 0;lack b at 2 2 hue 1 high 0;lack c at 0 0 hue 1 high 0;"
                + "lack d at 2 0 hue 1 high 0;lack e at 0 2 hue 1 high 0;";
        String[] around = {"0 0", "2 0", "0 2", "2 2"};
        for (String from : around) {
            check.due("a corner in common", Tape.laid(corners + "folk f at " + from + " home 1 1;").folk(0, 4), -1);
        }
        String[] sides = {"1 0", "2 1", "1 2", "0 1"};
        for (String from : sides) {
            check.due("a side in common", Tape.laid(corners + "folk f at " + from + " home 1 1;").folk(0, 4), 1);
        }
    }

    private void noWrapAround() {
        for (int columns = 3; columns <= 7; columns += 4) {
            check.of("CELLS are next to one another: none beyond a side");
            int last = columns - 1;
            String ends = "quay " + columns + " by 7;glows 0;lack a at " + last + " 3 hue 1 high 0;lack b at 0 4 hue 1 high 0;"
                    + "lack c at 0 3 hue 1 high 0;lack d at 0 0 hue 1 high 0;lack e at 0 6 hue 1 high 0;";
            String[] ways = {last + " 3 home 0 4", "0 4 home " + last + " 3", last + " 3 home 0 3", "0 3 home " + last + " 3",
                "0 0 home 0 6", "0 6 home 0 0"};
            for (String way : ways) {
                check.due("road from " + way, Tape.laid(ends + "folk f at " + way + ";").folk(0, 4), -1);
            }
            check.of("LIT: none beyond a side");
            for (int row = 0; row < 7; row += 3) {
                MissingLamps lamps = Tape.laid("quay " + columns + " by 7;lack a at " + last + " " + row + " hue 1 high 0;");
                check.due("lit cells", lamps.has(7), row == 3 ? 4 : 3);
                check.due("this row", lamps.cell(0, row, 1), 0);
                check.due("the next row", lamps.cell(0, (row + 1) % 7, 1), 0);
                lamps = Tape.laid("quay " + columns + " by 7;lack a at 0 " + row + " hue 1 high 0;");
                check.due("lit cells", lamps.has(7), row == 3 ? 4 : 3);
                check.due("this row", lamps.cell(last, row, 1), 0);
                check.due("the row ahead", lamps.cell(last, (row + 6) % 7, 1), 0);
            }
        }
    }

    /** Where one goes first who is between others. */
    private void goes(String text, int column, int row) {
        check.willBeAt(Tape.laid("quay 5 by 5;pace 1;lack z at 2 2 hue 9 high 0;finds not all;" + text), 0, 1, column, row);
    }

    private void ways() {
        check.of("WAYS are 0 to the row less, 1 to the column more, 2 to the row more, 3 to the column less");
        goes("folk f at 2 2 home 2 0;", 2, 1);
        goes("folk f at 2 2 home 4 2;", 3, 2);
        goes("folk f at 2 2 home 2 4;", 2, 3);
        goes("folk f at 2 2 home 0 2;", 1, 2);
        check.of("by the first WAY by which the ROAD from there is one step less");
        goes("folk f at 2 2 home 4 0;", 2, 1);
        goes("folk f at 2 2 home 4 4;", 3, 2);
        goes("folk f at 2 2 home 0 4;", 2, 3);
        goes("folk f at 2 2 home 0 0;", 2, 1);
        // Up or down around a wall, right or left around a wall.
        goes("wall 3 2;folk f at 2 2 home 4 2;", 2, 1);
        goes("wall 1 2;folk f at 2 2 home 0 2;", 2, 1);
        goes("wall 2 3;folk f at 2 2 home 2 4;", 3, 2);
        goes("wall 2 1;folk f at 2 2 home 2 0;", 3, 2);
        // The first way leads to a wall, or to a longer road.
        goes("wall 2 1;folk f at 2 2 home 4 0;", 3, 2);
        goes("wall 2 1;wall 3 2;folk f at 2 2 home 4 0;", 2, 3);
        goes("wall 2 1;wall 3 2;wall 2 3;folk f at 2 2 home 4 0;", 1, 2);
    }

    private void missingAtFirst() {
        check.of("Each THING is MISSING at first, but those told otherwise, for 0 NIGHTS");
        MissingLamps lamps = Tape.laid("quay 3 by 3;" + Tape.things(3) + "has b;");
        for (int t = 0; t < 3; t++) {
            check.due("missing", lamps.thing(t, 4), t == 1 ? 0 : 1);
            check.due("nights", lamps.thing(t, 5), 0);
        }
        check.due("night", lamps.has(5), 0);
    }

    /** How many cells of seven by seven are no more than so many steps from the first one. */
    private static int cellsWithin(int reach) {
        int count = 0;
        for (int k = 0; k < 49; k++) {
            count += k / 7 + k % 7 <= reach ? 1 : 0;
        }
        return count;
    }

    private void glowLights() {
        check.of("no more rows and columns together from it than the SUM of glows tells");
        for (int reach = 0; reach <= 9; reach++) {
            MissingLamps lamps = Tape.laid("quay 7 by 7;lack a at 0 0 hue 5 high 0;glows " + reach + ";");
            check.due("how far", lamps.thing(0, 6), reach);
            check.due("lit cells by " + reach, lamps.has(7), cellsWithin(reach));
            for (int column = 0; column < 7; column++) {
                for (int row = 0; row < 7; row++) {
                    check.due("lit " + column + " " + row, lamps.cell(column, row, 1), column + row <= reach ? 1 : 0);
                }
            }
        }
    }

    private void glowBounds() {
        check.of("0 .. 9 (below is 0, above 9)");
        String[] sums = {"0-1", "0-1000*1000", "10", "9999", "1000*1000", "0", "9"};
        int[] due = {0, 0, 9, 9, 9, 0, 9};
        for (int k = 0; k < sums.length; k++) {
            MissingLamps lamps = Tape.laid("quay 7 by 7;lack a at 0 0 hue 5 high 0;glows " + sums[k] + ";");
            check.due("how far by " + sums[k], lamps.thing(0, 6), due[k]);
            check.due("lit cells by " + sums[k], lamps.has(7), cellsWithin(due[k]));
        }
        check.due("0 lights its own cell", cellsWithin(0), 1);
    }

    private void glowOfHue() {
        check.of("without it: hue");
        for (int hue = 1; hue <= 9; hue++) {
            MissingLamps lamps = Tape.laid("quay 7 by 7;lack a at 0 0 hue " + hue + " high 0;");
            check.due("how far", lamps.thing(0, 6), hue);
            check.due("lit cells", lamps.has(7), cellsWithin(hue));
        }
    }

    private void lightAndWalls() {
        check.of("it lights each CELL without a wall (walls or not)");
        MissingLamps lamps = Tape.laid("quay 5 by 3;wall 1 0;wall 1 1;wall 0 1;lack a at 0 0 hue 2 high 0;");
        int[][] lit = {{1, 0, 1, 0, 0}, {0, 0, 0, 0, 0}, {1, 0, 0, 0, 0}};
        for (int row = 0; row < 3; row++) {
            for (int column = 0; column < 5; column++) {
                check.due("lit " + column + " " + row, lamps.cell(column, row, 1), lit[row][column]);
                check.due("lanterns " + column + " " + row, lamps.cell(column, row, 2), lit[row][column]);
            }
        }
        check.due("lit cells", lamps.has(7), 3);
    }

    private void roadNone() {
        check.of("to his home: none, if he is there; there may be no ROAD");
        MissingLamps lamps = Tape.laid("quay 3 by 3;folk f at 1 1 home 1 1;folk g at 1 1 home 1 0;");
        check.due("at home in the dark", lamps.folk(0, 4), 0);
        check.due("next to it in the dark", lamps.folk(1, 4), -1);
        check.due("at home", lamps.has(8), 1);
        check.willBeAt(lamps, 0, 40, 1, 1);
        check.willBeAt(lamps, 1, 40, 1, 1);
    }

    private void roadInto() {
        check.of("each one LIT into which he steps");
        // Lit are 1 to 3 of the first row.
        String text = "quay 5 by 3;wall 1 1;wall 2 1;wall 3 1;lack a at 2 0 hue 1 high 0;finds not all;folk f at ";
        check.due("from the dark", Tape.laid(text + "0 0 home 3 0;").folk(0, 4), 3);
        check.due("into a dark home", Tape.laid(text + "1 0 home 4 0;").folk(0, 4), -1);
        check.due("through one dark cell", Tape.laid(text + "0 1 home 3 0;").folk(0, 4), -1);
        check.due("from the dark to the dark", Tape.laid(text + "0 0 home 4 0;").folk(0, 4), -1);
        check.due("one step", Tape.laid(text + "0 0 home 1 0;").folk(0, 4), 1);
        // Lit all, walls between.
        check.due("no way around", Tape.laid("quay 3 by 3;wall 0 1;wall 1 1;wall 2 1;lack a at 0 0 hue 9 high 0;"
                + "folk f at 0 0 home 0 2;").folk(0, 4), -1);
    }

    private void longRoad() {
        check.of("the fewest steps");
        MissingLamps lamps = Tape.laid(SNAKE + "pace 1;");
        check.due("the road", lamps.folk(0, 4), 30);
        check.due("by steps", lamps.home(0), 30);
        check.willBeAt(lamps, 0, 29, 1, 6);
        check.willBeAt(lamps, 0, 7, 6, 1);
        check.willBeAt(lamps, 0, 15, 0, 3);
        check.due("by nines", Tape.laid(SNAKE + "pace 9;").home(0), 4);
        check.isSent(lamps, 1, 0, 0);
        lamps.find(0);
        check.isSent(lamps, 1, 24, 1);
        // Two roads of like length, then of unlike length: the shorter one, though its first way comes later.
        MissingLamps two = Tape.laid("quay 5 by 5;wall 1 1;wall 2 1;wall 3 1;wall 1 2;wall 2 2;wall 3 2;"
                + "lack a at 0 0 hue 9 high 0;finds not all;folk f at 0 2 home 4 2;pace 1;wall 3 3;");
        check.due("above", two.folk(0, 4), 8);
        check.willBeAt(two, 0, 1, 0, 1);
        MissingLamps below = Tape.laid("quay 5 by 4;wall 1 1;wall 2 1;wall 3 1;wall 1 2;wall 2 2;wall 3 2;"
                + "lack a at 0 0 hue 9 high 0;finds not all;folk f at 0 2 home 4 2;pace 1;");
        check.due("below", below.folk(0, 4), 6);
        check.willBeAt(below, 0, 1, 0, 3);
    }

    private void stepsIntoLit() {
        check.of("each one LIT into which he steps: a dark CELL as near is none of the ROAD's");
        MissingLamps lamps = Tape.laid("quay 5 by 3;pace 2;lack a at 2 1 hue 1 high 0;finds not all;folk f at 1 1 home 2 0;"
                + "folk g at 3 1 home 2 0;folk h at 0 1 home 2 0;");
        check.due("two steps", lamps.folk(0, 4), 2);
        check.willBeAt(lamps, 0, 1, 2, 0);
        MissingLamps slow = Tape.laid("quay 5 by 3;pace 1;lack a at 2 1 hue 1 high 0;finds not all;folk f at 1 1 home 2 0;"
                + "folk g at 3 1 home 2 0;folk h at 0 1 home 2 0;");
        check.willBeAt(slow, 0, 1, 2, 1);
        check.willBeAt(slow, 1, 1, 2, 1);
        check.willBeAt(slow, 2, 1, 1, 1);
        check.willBeAt(slow, 2, 2, 2, 1);
    }

    private void paceTillHome() {
        check.of("goes on STEPS, pace at most, till he is at home");
        String text = "quay 7 by 3;lack a at 3 0 hue 9 high 0;finds not all;folk f at 0 0 home 5 0;pace ";
        for (int pace = 1; pace <= 9; pace++) {
            MissingLamps lamps = Tape.laid(text + pace + ";");
            for (int n = 0; n <= 6; n++) {
                check.willBeAt(lamps, 0, n, Math.min(5, n * pace), 0);
            }
            check.due("home by " + pace, lamps.home(0), (5 + pace - 1) / pace);
        }
    }

    private void staysWithoutRoad() {
        check.of("without a ROAD he stays");
        // Lit up to one cell ahead of his home.
        MissingLamps lamps = Tape.laid("quay 7 by 3;pace 9;lack a at 3 0 hue 2 high 0;finds not all;folk f at 0 0 home 6 0;");
        check.willBeAt(lamps, 0, 1, 0, 0);
        check.willBeAt(lamps, 0, 40, 0, 0);
        check.due("home", lamps.home(0), -1);
    }

    private void litAhead() {
        check.of("FIRST it is LIT, by what is so ahead of it");
        MissingLamps found = Tape.laid("quay 3 by 3;pace 1;lack a at 0 0 hue 9 high 0;folk f at 0 0 home 0 0;folk g at 2 2 home 0 2;");
        check.willBeAt(found, 1, 1, 1, 2);
        check.willBeAt(found, 1, 2, 1, 2);
        MissingLamps lost = Tape.laid("quay 3 by 3;pace 1;lack a at 0 0 hue 9 high 0;has a;loses all;finds not all;"
                + "folk g at 2 2 home 0 2;");
        check.willBeAt(lost, 0, 1, 2, 2);
        check.willBeAt(lost, 0, 2, 1, 2);
        // The night's number and the nights of a thing are those ahead of it, too.
        MissingLamps grows = Tape.laid("quay 3 by 3;pace 1;lack a at 2 2 hue 9 high 0;glows night+age;finds not all;"
                + "folk g at 2 2 home 0 2;");
        check.willBeAt(grows, 0, 1, 2, 2);
        check.willBeAt(grows, 0, 2, 1, 2);
    }

    private void atOnce() {
        check.of("THEN at once, by what is so then (what is MISSING as ahead of the NIGHT)");
        // Each is lost by one that is missing: b by a, c by b a night later, not by b in the same one.
        MissingLamps chain = Tape.laid("quay 3 by 3;lack a at 0 0 hue 1 high 1;lack b at 0 0 hue 1 high 2;lack c at 0 0 hue 1 high 3;"
                + "has b;has c;finds not all;loses lost=high-1;");
        check.due("b", chain.missing(1, 1), 1);
        check.due("c", chain.missing(2, 1), 0);
        check.due("c", chain.missing(2, 2), 1);
        // Where folk are behind their steps, not ahead of them.
        MissingLamps goes = Tape.laid("quay 3 by 3;lack a at 0 0 hue 9 high 0;lack b at 2 0 hue 1 high 0;folk f at 0 0 home 2 0;");
        check.due("he has left a", goes.missing(0, 1), 1);
        check.due("he has come to b", goes.missing(1, 1), 0);
    }

    private void findsWithout() {
        check.of("finds (without it: near is above 0)");
        for (int count = 0; count < 4; count++) {
            MissingLamps lamps = Tape.laid("quay 3 by 3;lack a at 0 0 hue 1 high 0;" + Tape.folk(count));
            check.due("found by " + count, lamps.nights(1), count > 0 ? 1 : 0);
        }
    }

    private void losesWithout() {
        check.of("loses (without it: never)");
        MissingLamps lamps = Tape.laid("quay 3 by 3;" + Tape.things(9) + "has a;has i;" + Tape.folk(1));
        check.due("found", lamps.nights(1), 7);
        lamps.nights(40);
        check.due("missing", lamps.has(6), 0);
        check.due("kept", lamps.has(9), 7);
    }

    private void sinceThen() {
        check.of("of these it is 0 NIGHTS since, of the others one more");
        MissingLamps lamps = Tape.laid("quay 3 by 3;lack a at 0 0 hue 1 high 1;lack b at 0 0 hue 1 high 2;lack c at 0 0 hue 1 high 1;"
                + "lack d at 0 0 hue 1 high 2;has c;has d;finds high=1 and night=2;loses high=1 and night=2;");
        int[][] due = {{0, 0, 0, 0}, {1, 1, 1, 1}, {2, 2, 2, 2}, {0, 3, 0, 3}, {1, 4, 1, 4}};
        for (int n = 0; n < due.length; n++) {
            for (int t = 0; t < 4; t++) {
                check.due("nights of " + t + " at " + n, lamps.thing(t, 5), due[n][t]);
                check.due("missing " + t + " at " + n, lamps.thing(t, 4), (t < 2) == (n < 3 || t % 2 == 1) ? 1 : 0);
            }
            lamps.nights(1);
        }
    }

    private void ninetyNine() {
        check.of("one more (99 at most)");
        MissingLamps lamps = Tape.laid("quay 3 by 3;lack a at 0 0 hue 1 high 0;lack b at 0 0 hue 1 high 0;has b;"
                + "finds age>99;loses age>99;");
        lamps.nights(40);
        lamps.nights(40);
        int[] nights = {18, 1, 1, 1, 40};
        int[] due = {98, 99, 99, 99, 99};
        for (int k = 0; k < nights.length; k++) {
            check.due("none is found", lamps.nights(nights[k]), 0);
            check.due("a missing", lamps.thing(0, 5), due[k]);
            check.due("b not missing", lamps.thing(1, 5), due[k]);
        }
        MissingLamps last = Tape.laid("quay 3 by 3;lack a at 0 0 hue 1 high 0;finds age=99;");
        last.nights(40);
        last.nights(40);
        check.due("99 nights", last.nights(19), 0);
        check.due("found by 99", last.nights(1), 1);
    }

    private void lastNight() {
        check.of("The NIGHT is one more (999 at most)");
        MissingLamps lamps = Tape.late("quay 3 by 3;lack a at 0 0 hue 1 high 0;finds night=998;loses night=999;", 997);
        check.due("998", lamps.nights(1), 0);
        check.due("night", lamps.has(5), 998);
        check.due("999", lamps.nights(1), 1);
        check.due("night", lamps.has(5), 999);
        check.due("no more", lamps.nights(1), -1);
        check.due("no more by the seed", lamps.chance(1), -1);
        check.due("night", lamps.has(5), 999);
        check.isKept(lamps, 0, 998, 0, 1);
        check.due("acts go on: lost", lamps.lose(0), true);
        check.isKept(lamps, 1, 999, 0, 0);
    }

    private static long drawn(long x) {
        return (1103515245L * x + 12345L) % 2147483648L;
    }

    private void draws() {
        check.of("A DRAW of m: x becomes (1103515245 x + 12345) mod 2 to the 31; floor(x / 64) mod m");
        for (int seed : new int[] {0, 1, 2, 63, 64, 12345, 1073741824, Integer.MAX_VALUE - 1, Integer.MAX_VALUE}) {
            for (int gale : new int[] {0, 1, 50, 99, 100}) {
                for (int things : new int[] {0, 1, 2, 9}) {
                    MissingLamps lamps = Tape.laid("quay 3 by 3;gale " + gale + ";" + Tape.things(things));
                    lamps.seed(seed);
                    long x = seed;
                    int gales = 0;
                    for (int n = 0; n < 40; n++) {
                        x = drawn(x);
                        if (x / 64 % 100 < gale && things > 0) {
                            gales++;
                            x = drawn(x);
                        }
                    }
                    check.due("gales of " + gale + " from " + seed + " on, things " + things, lamps.chance(40), gales);
                    check.due("the seed behind them", lamps.has(12), x);
                }
            }
        }
    }

    private void belowGale() {
        check.of("a DRAW of 100: below gale");
        // From 0 on: 12345, floor(12345 / 64) mod 100 is 92.
        String[] gales = {"92", "93"};
        for (int k = 0; k < 2; k++) {
            MissingLamps lamps = Tape.laid("quay 3 by 3;gale " + gales[k] + ";" + Tape.things(1));
            lamps.seed(0);
            check.due("92 below " + gales[k], lamps.chance(1), k);
        }
    }

    private void blownLantern() {
        check.of("a DRAW of these: its LANTERN lights nothing in that NIGHT");
        StringBuilder text = new StringBuilder("quay 7 by 3;gale 100;glows 0;finds not all;");
        for (int k = 0; k < 6; k++) {
            text.append("lack x").append((char) ('a' + k)).append(" at ").append(k).append(" 0 hue 1 high 0;");
            text.append("folk y").append((char) ('a' + k)).append(" at ").append(k).append(" 1 home ").append(k).append(" 0;");
        }
        MissingLamps lamps = Tape.laid(text.toString());
        for (int seed = 0; seed < 20; seed++) {
            lamps.seed(seed);
            check.due("gale", lamps.chance(1), 1);
            long blown = drawn(drawn(seed)) / 64 % 6;
            for (int f = 0; f < 6; f++) {
                check.due("row of " + f, lamps.folk(f, 1), f == blown ? 1 : 0);
            }
            check.due("it hangs all the same", lamps.has(6), 6);
            check.due("it is lit again", lamps.has(7), 6);
            lamps.undo();
        }
        check.of("its LANTERN lights nothing in that NIGHT, and in the next one again");
        lamps.seed(0);
        long x = drawn(drawn(0));
        long first = x / 64 % 6;
        long second = drawn(drawn(x)) / 64 % 6;
        lamps.chance(2);
        for (int f = 0; f < 6; f++) {
            check.due("row of " + f, lamps.folk(f, 1), f == first && f == second ? 1 : 0);
        }
    }

    private void keptRows() {
        check.of("KEPT is each that is FOUND or LOST: NIGHT, THING, 1 or 0, THING by THING (by acts, too)");
        MissingLamps lamps = Tape.laid("quay 3 by 3;" + Tape.things(4) + "has a;has c;finds night=1;loses night=1;");
        lamps.lose(2);
        lamps.find(1);
        lamps.nights(1);
        lamps.find(3);
        lamps.chance(1);
        lamps.lead(0, 0, 0);
        lamps.lose(2);
        // a lost, b lost, c found, d lost in the night 1.
        int[][] due = {{0, 2, 0}, {0, 1, 1}, {1, 3, 1}, {1, 0, 0}, {1, 1, 0}, {1, 2, 1}, {1, 3, 0}, {2, 2, 0}};
        check.due("kept", lamps.has(9), due.length);
        for (int k = 0; k < due.length; k++) {
            check.isKept(lamps, k, due[k][0], due[k][1], due[k][2]);
        }
    }

    private void fortyKept() {
        check.of("the last 40 are told");
        MissingLamps lamps = Tape.laid("quay 3 by 3;" + Tape.things(1));
        for (int k = 0; k < 90; k++) {
            check.due("told", lamps.has(9), Math.min(40, k));
            check.due("act", k % 2 == 0 ? lamps.find(0) : lamps.lose(0), true);
            if (k == 38 || k == 39 || k == 40 || k == 79 || k == 80) {
                check.isKept(lamps, 0, 0, 0, k < 40 || k % 2 == 1 ? 1 : 0);
                check.isKept(lamps, Math.min(k, 39), 0, 0, 1 - k % 2);
                check.due("none behind it", lamps.kept(Math.min(k, 39) + 1, 0), -1);
            }
        }
        for (int k = 0; k < 40; k++) {
            check.due("found, lost, found ..", lamps.kept(k, 2), (k + 1) % 2);
        }
        check.of("all is as it was ahead of it: those that were no more told are told again");
        lamps.undo();
        for (int k = 0; k < 40; k++) {
            check.due("lost, found, lost ..", lamps.kept(k, 2), k % 2);
        }
    }

    private void twentyActs() {
        check.of("The last 20 can be undone");
        for (int acts : new int[] {19, 20, 21, 41}) {
            MissingLamps lamps = Tape.laid("quay 7 by 7;folk f at 0 0 home 0 0;");
            for (int k = 1; k <= acts; k++) {
                lamps.lead(0, k % 7, k / 7);
                check.due("acts", lamps.has(11), Math.min(k, 20));
            }
            int left = Math.max(0, acts - 20);
            for (int k = acts - 1; k >= left; k--) {
                check.due("undo", lamps.undo(), true);
                check.isAt(lamps, 0, k % 7, k / 7);
                check.due("acts", lamps.has(11), k - left);
            }
            check.due("no more", lamps.undo(), false);
            check.isAt(lamps, 0, left % 7, left / 7);
            check.due("refused", lamps.status(4), 1);
        }
    }

    private void actsComeAndGo() {
        check.of("The last 20 can be undone, behind some that were");
        MissingLamps lamps = Tape.laid("quay 7 by 7;folk f at 0 0 home 0 0;");
        for (int k = 1; k <= 30; k++) {
            lamps.lead(0, k % 7, k / 7);
        }
        for (int k = 0; k < 12; k++) {
            check.due("undo", lamps.undo(), true);
        }
        check.isAt(lamps, 0, 18 % 7, 18 / 7);
        for (int k = 0; k < 15; k++) {
            lamps.lead(0, k % 7, 6);
        }
        check.due("acts", lamps.has(11), 20);
        for (int k = 13; k >= 0; k--) {
            check.due("undo", lamps.undo(), true);
            check.isAt(lamps, 0, k % 7, 6);
        }
        for (int k = 18; k >= 13; k--) {
            check.due("undo", lamps.undo(), true);
            check.isAt(lamps, 0, k % 7, k / 7);
        }
        check.due("no more", lamps.undo(), false);
    }
}
