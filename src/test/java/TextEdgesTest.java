/** Terms I: each sentence about the text that names an edge. */
public final class TextEdgesTest {
    private static final String START = Tape.START;
    private static final String[] OWN = ("quay by pace gale wall lack at hue high has folk home glows finds loses night "
            + "age lost near if or and not all min max").split(" ");
    // Each kind of statement, each kind of part and fact: word by word, so that each place of the text can be tried.
    private static final String ALL_KINDS = "quay 5 by 4 ; pace 2 ; gale 7 ; wall 2 1 ; lack ab at 0 0 hue 3 high 4 ; has ab ; "
            + "folk cd at 1 1 home 3 2 ; glows 1 + ( hue - 2 ) * min ( high , age ) / max ( night , lost ) % 3 ; "
            + "finds not near > 0 and [ all or hue = 1 ] ; loses if ( age < 3 , 1 , 2 ) = 2 ;";
    private final Check check = new Check();

    public static void main(String[] args) {
        TextEdgesTest test = new TextEdgesTest();
        test.eightyStatements();
        test.size();
        test.sizeFirstAndAlone();
        test.pace();
        test.gale();
        test.wallCells();
        test.wallOnSomething();
        test.thingNumbers();
        test.nineThings();
        test.hasThings();
        test.folkCells();
        test.sixFolk();
        test.oneRuleEach();
        test.ruleWords();
        test.names();
        test.ownWords();
        test.unlikeNames();
        test.numbers();
        test.blanks();
        test.sideBySide();
        test.endsTooSoon();
        test.noStatement();
        test.wrongAnywhere();
        test.tooLongAnywhere();
        test.firstFault();
        test.unknownNames();
        test.rowOfTakenCell();
        test.eighthOpen();
        test.notUntilItsFactEnds();
        test.oneTooMany();
        test.eightyFirst();
        test.check.end();
    }

    private void eightyStatements() {
        check.of("{ STATEMENT ; } (80 at most)");
        String most = "pace 1;".repeat(78);
        check.isWhole(START + most + "gale 2;", 80);
        check.isWhole(START + most + "gale 2; \n \n", 80);
        check.isFault(START + most + "gale 2", 1, START.length() + most.length() + 6);
        check.isFault(START + most + "gale 101;", 4, START.length() + most.length() + 5);
        check.isFault(START + most + "gale 2;gale 2;", 6, START.length() + most.length() + 7);
    }

    private void size() {
        check.of("quay N by N (3 .. 7 columns, rows)");
        for (int columns = 3; columns <= 7; columns++) {
            for (int rows = 3; rows <= 7; rows++) {
                MissingLamps lamps = Tape.laid("quay " + columns + " by " + rows + ";");
                check.due("columns", lamps.has(0), columns);
                check.due("rows", lamps.has(1), rows);
                check.due("the last cell", lamps.cell(columns - 1, rows - 1, 0), 0);
                check.due("a column more", lamps.cell(columns, 0, 0), -1);
                check.due("a row more", lamps.cell(0, rows, 0), -1);
            }
        }
        for (int bad : new int[] {0, 1, 2, 8, 9, 10, 70, 9999}) {
            check.isFault("quay " + bad + " by 3;", 4, 5);
            check.isFault("quay 7 by " + bad + ";", 4, 10);
        }
    }

    private void sizeFirstAndAlone() {
        check.of("quay: the first STATEMENT, and it alone");
        for (String word : OWN) {
            if (!word.equals("quay")) {
                check.isFault(word + " 3 by 3;", 1, 0);
            }
        }
        check.isFault("pace 1;quay 3 by 3;", 1, 0);
        check.isFaultBehind("quay 3 by 3;", 1, 0);
        check.isFaultBehind("pace 1; quay 3 by 3;", 1, 8);
    }

    /** Twelve steps: six columns, then six rows. */
    private void paced(String text, int pace) {
        MissingLamps lamps = Tape.laid("quay 7 by 7;lack a at 3 3 hue 9 high 0;folk f at 0 0 home 6 6;" + text);
        check.willBeAt(lamps, 0, 1, Math.min(pace, 6), Math.max(0, pace - 6));
    }

    private void pace() {
        check.of("pace N (1 .. 9; 3 without)");
        for (int pace = 1; pace <= 9; pace++) {
            paced("pace " + pace + ";", pace);
        }
        paced("", 3);
        check.isFaultBehind("pace 0;", 4, 5);
        check.isFaultBehind("pace 10;", 4, 5);
        check.isFaultBehind("pace 9999;", 4, 5);
        check.of("pace: the last one counts");
        paced("pace 9;gale 1;pace 2;", 2);
        paced("pace 2;gale 1;pace 9;", 9);
    }

    private void blown(String text, int gales, int odds) {
        MissingLamps lamps = Tape.laid("quay 3 by 3;" + text + "lack a at 1 1 hue 9 high 0;folk f at 0 0 home 2 0;");
        check.due("odds with " + text, lamps.odds(0), odds);
        check.due("gales with " + text, lamps.chance(20), gales);
    }

    private void gale() {
        check.of("gale N (0 .. 100; 0 without)");
        blown("", 0, 100);
        blown("gale 0;", 0, 100);
        blown("gale 100;", 20, 0);
        check.isFaultBehind("gale 101;", 4, 5);
        check.isFaultBehind("gale 9999;", 4, 5);
        check.of("gale: the last one counts");
        blown("gale 100;pace 3;gale 0;", 0, 100);
        blown("gale 0;pace 3;gale 100;", 20, 0);
    }

    private void wallCells() {
        check.of("wall N N (a CELL: a column, a row from 0 on)");
        MissingLamps lamps = Tape.laid("quay 7 by 5;wall 0 0;wall 6 0;wall 0 4;wall 6 4;wall 2 3;");
        check.due("walls", lamps.has(2), 5);
        for (int column = 0; column < 7; column++) {
            for (int row = 0; row < 5; row++) {
                boolean wall = column % 6 == 0 && row % 4 == 0 || column == 2 && row == 3;
                check.due("wall " + column + " " + row, lamps.cell(column, row, 0), wall ? 1 : 0);
            }
        }
        check.isFault("quay 7 by 5;wall 7 0;", 4, 17);
        check.isFault("quay 7 by 5;wall 0 5;", 4, 19);
        check.isFault("quay 5 by 7;wall 5 6;", 4, 17);
        check.isFault("quay 5 by 7;wall 7 7;", 4, 17);
        check.isWhole("quay 5 by 7;wall 4 6;", 2);
    }

    private void wallOnSomething() {
        String taken = "wall 0 0;wall 1 0;lack a at 2 0 hue 1 high 0;lack b at 3 0 hue 1 high 0;lack c at 4 0 hue 1 high 0;"
                + "has b;folk d at 0 1 home 1 1;folk e at 2 1 home 3 1;folk f at 4 1 home 4 2;";
        String[] cells = {"0 0", "1 0", "2 0", "3 0", "4 0", "0 1", "1 1", "2 1", "3 1", "4 1", "4 2"};
        String[] what = {"no wall", "no wall", "no THING", "no THING", "no THING", "nobody yet", "nobody's home", "nobody yet",
            "nobody's home", "nobody yet", "nobody's home"};
        for (int k = 0; k < cells.length; k++) {
            check.of("wall: " + what[k]);
            String text = "quay 5 by 3;" + taken + "wall " + cells[k] + ";";
            check.isFault(text, 4, text.length() - 2);
        }
        check.of("wall: in which there is nothing");
        for (String free : new String[] {"0 2", "1 2", "2 2", "3 2"}) {
            check.isWhole("quay 5 by 3;" + taken + "wall " + free + ";", 11);
        }
        check.of("a CELL without a wall");
        for (String wall : new String[] {"0 0", "1 0"}) {
            String text = "quay 5 by 3;" + taken + "lack g at " + wall;
            check.isFault(text, 4, text.length() - 1);
            text = "quay 5 by 3;" + taken + "folk g at " + wall;
            check.isFault(text, 4, text.length() - 1);
            text = "quay 5 by 3;" + taken + "folk g at 2 2 home " + wall;
            check.isFault(text, 4, text.length() - 1);
        }
        // Beside walls all may be in one cell.
        check.isWhole("quay 5 by 3;" + taken + "lack g at 2 0 hue 1 high 0;lack h at 4 2 hue 1 high 0;"
                + "folk i at 2 0 home 2 0;folk j at 0 1 home 4 2;", 14);
    }

    private void thingNumbers() {
        check.of("lack: hue 1 .. 9, high 0 .. 9");
        for (int hue = 1; hue <= 9; hue++) {
            MissingLamps lamps = Tape.laid(START + "lack a at 2 1 hue " + hue + " high " + (9 - hue) + ";");
            check.due("column", lamps.thing(0, 0), 2);
            check.due("row", lamps.thing(0, 1), 1);
            check.due("hue", lamps.thing(0, 2), hue);
            check.due("high", lamps.thing(0, 3), 9 - hue);
        }
        check.due("high 9", Tape.laid(START + "lack a at 2 1 hue 1 high 9;").thing(0, 3), 9);
        check.isFaultBehind("lack a at 2 1 hue 0 high 0;", 4, 18);
        check.isFaultBehind("lack a at 2 1 hue 10 high 0;", 4, 18);
        check.isFaultBehind("lack a at 2 1 hue 9 high 10;", 4, 25);
        check.isFault("quay 4 by 6;lack a at 4 0 hue 1 high 0;", 4, 22);
        check.isFault("quay 4 by 6;lack a at 0 6 hue 1 high 0;", 4, 24);
        check.isWhole("quay 4 by 6;lack a at 3 5 hue 1 high 0;", 2);
    }

    private void nineThings() {
        check.of("9 THINGS");
        String nine = Tape.things(9);
        MissingLamps lamps = Tape.laid(START + nine);
        check.due("things", lamps.has(3), 9);
        check.due("missing", lamps.has(6), 9);
        check.due("the ninth's name", lamps.letter(0, 8, 0), 9);
        check.isFaultBehind(nine + "lack j at 0 0 hue 1 high 0;", 6, nine.length());
        check.isFaultBehind(nine + "has a;\nlack j at 0 0 hue 1 high 0;", 6, nine.length() + 7);
    }

    private void hasThings() {
        check.of("has NAME (a THING that is MISSING: it is not at first)");
        MissingLamps lamps = Tape.laid(START + Tape.things(9) + "has i;has a;has e;");
        for (int t = 0; t < 9; t++) {
            check.due("missing " + t, lamps.thing(t, 4), t % 4 == 0 ? 0 : 1);
            check.due("nights " + t, lamps.thing(t, 5), 0);
        }
        check.due("missing", lamps.has(6), 6);
        check.isFaultBehind(Tape.things(2) + "has b;has a;has b;", 3, Tape.things(2).length() + 16);
    }

    private void folkCells() {
        check.of("folk NAME at N N home N N (CELLS without a wall)");
        MissingLamps lamps = Tape.laid("quay 7 by 5;folk a at 6 4 home 0 0;folk b at 0 4 home 6 0;folk c at 5 3 home 5 3;");
        int[][] due = {{6, 4, 0, 0}, {0, 4, 6, 0}, {5, 3, 5, 3}};
        for (int f = 0; f < 3; f++) {
            for (int what = 0; what < 4; what++) {
                check.due("folk " + f + " " + what, lamps.folk(f, what), due[f][what]);
            }
        }
        check.isFault("quay 7 by 5;folk a at 7 4 home 0 0;", 4, 22);
        check.isFault("quay 7 by 5;folk a at 6 5 home 0 0;", 4, 24);
        check.isFault("quay 7 by 5;folk a at 6 4 home 7 0;", 4, 31);
        check.isFault("quay 7 by 5;folk a at 6 4 home 0 5;", 4, 33);
    }

    private void sixFolk() {
        check.of("6 FOLK");
        String six = Tape.folk(6);
        MissingLamps lamps = Tape.laid(START + six);
        check.due("folk", lamps.has(4), 6);
        check.due("the sixth's name", lamps.letter(1, 5, 0), 19);
        check.isFaultBehind(six + "folk a at 0 0 home 0 0;", 6, six.length());
        check.isWhole(START + six + Tape.things(9), 16);
    }

    private void oneRuleEach() {
        check.of("glows SUM, finds TEST, loses TEST (one each)");
        String rules = "glows 1;finds all;loses all;";
        check.isWhole(START + rules, 4);
        for (String again : new String[] {"glows 1;", "finds all;", "loses all;"}) {
            check.isFaultBehind(rules + " " + again, 6, rules.length() + 1);
        }
    }

    private void ruleWords() {
        check.of("in glows, loses: lost; in finds: near");
        check.isWhole(START + "glows lost;finds near>0;loses lost>0;", 4);
        check.isFaultBehind("glows near;", 1, 6);
        check.isFaultBehind("loses near>0;", 1, 6);
        check.isFaultBehind("finds lost>0;", 1, 6);
        check.isFaultBehind("finds near>lost;", 1, 11);
        // The word of one rule is not left over in the next.
        check.isFaultBehind("finds near>0;loses near>0;", 1, 19);
        check.isFaultBehind("glows lost;finds lost>0;", 1, 17);
        for (String part : new String[] {"night", "hue", "high", "age", "9999"}) {
            check.isWhole(START + "glows " + part + ";finds " + part + ">0;loses 0<" + part + ";", 4);
        }
        for (String word : new String[] {"quay", "by", "pace", "gale", "wall", "lack", "at", "has", "folk", "home", "glows",
            "finds", "loses", "or", "and", "not", "all", "a"}) {
            check.isFaultBehind("glows " + word + ";", 1, 6);
            check.isFaultBehind("glows 1+" + word + ";", 1, 8);
        }
    }

    private void names() {
        check.of("NAMES: 1 to 6 letters");
        check.isWhole(START + "lack a at 0 0 hue 1 high 0;folk z at 0 0 home 0 0;has a;", 4);
        check.isWhole(START + "lack zyxwvu at 0 0 hue 1 high 0;folk abcdef at 0 0 home 0 0;has zyxwvu;", 4);
        check.isFaultBehind("lack abcdefg at 0 0 hue 1 high 0;", 1, 11);
        check.isFaultBehind("folk abcdefghij at 0 0 home 0 0;", 1, 11);
        check.isFaultBehind("lack abcdef at 0 0 hue 1 high 0;has abcdefg;", 1, 42);
        for (String none : new String[] {"A", "1", "_", ";", "-", "{", "`", "\u00e4", "\0"}) {
            check.isFaultBehind("lack " + none, 1, 5);
            check.isFaultBehind("folk " + none, 1, 5);
            check.isFaultBehind("has " + none, 1, 4);
        }
    }

    private void ownWords() {
        check.of("OWN WORDS, which no NAME is; an OWN WORD where a NAME must be");
        for (String word : OWN) {
            check.isFaultBehind("lack " + word + " at 0 0 hue 1 high 0;", 1, 5);
            check.isFaultBehind("folk " + word + " at 0 0 home 0 0;", 1, 5);
            check.isFaultBehind("has " + word + ";", 1, 4);
            // One letter more or less is another word.
            check.isWhole(START + "lack x" + word + " at 0 0 hue 1 high 0;has x" + word + ";", 3);
            check.isWhole(START + "folk " + word + "x at 0 0 home 0 0;", 2);
            if (!word.equals("wall")) {
                check.isWhole(START + "folk " + word.substring(1) + " at 0 0 home 0 0;", 2);
            }
        }
    }

    private void unlikeNames() {
        check.of("2 a NAME that is there already (of both sorts)");
        String both = "lack a at 0 0 hue 1 high 0;lack abcdef at 0 0 hue 1 high 0;folk b at 0 0 home 0 0;"
                + "folk bcdefg at 0 0 home 0 0;has a;";
        for (String name : new String[] {"a", "abcdef", "b", "bcdefg"}) {
            check.isFaultBehind(both + "lack " + name + " at 0 0 hue 1 high 0;", 2, both.length() + 5);
            check.isFaultBehind(both + "folk \n" + name + " at 0 0 home 0 0;", 2, both.length() + 6);
        }
        for (String name : new String[] {"ab", "ba", "abcde", "abcdeg", "bbcdef", "aa", "c"}) {
            check.isWhole(START + both + "lack " + name + " at 0 0 hue 1 high 0;", 7);
            check.isWhole(START + both + "folk " + name + " at 0 0 home 0 0;", 7);
        }
    }

    private void numbers() {
        check.of("NUMBERS: 1 to 4 digits");
        check.isWhole("quay 3 by 3;", 1);
        check.isWhole("quay 03 by 0007;gale 0100;pace 009;", 3);
        check.isFault("quay 00003 by 3;", 1, 9);
        check.isFault("quay 3 by 3;pace 00001;", 1, 21);
        check.isFault("quay 3 by 3;pace 123456789;", 1, 21);
        check.isFaultBehind("glows 10000;", 1, 10);
        check.isFaultBehind("glows 1 0000;", 1, 8);
        MissingLamps lamps = Tape.laid(START + "glows 9999-9990;lack a at 0 0 hue 1 high 0;");
        check.due("9999", lamps.thing(0, 6), 9);
    }

    private void blanks() {
        check.of("Blanks (10, 32) are where one likes");
        check.isWhole(ALL_KINDS, 10);
        check.isWhole(ALL_KINDS.replace(" ", "\n"), 10);
        check.isWhole("\n \n" + ALL_KINDS.replace(" ", " \n  ") + " \n\n", 10);
        // No blank at all where no word or number is next to another.
        check.isWhole(ALL_KINDS.replaceAll(" ?([^a-z0-9 ]) ?", "$1"), 10);
        for (char other : new char[] {0, 9, 11, 12, 13, 31, 33, 127, 160, 255}) {
            check.isFault(other + START, 1, 0);
            check.isFault("quay" + other + "3 by 3;", 1, 4);
            check.isFault("quay 3 by 3" + other + ";", 1, 11);
            check.isFault(START + other, 1, 12);
        }
        check.isFault("qu ay 3 by 3;", 1, 0);
        check.isFault("quay 3 by 3;gale 1 0;", 1, 19);
    }

    private void sideBySide() {
        check.of("words and numbers side by side need one");
        check.isFault("quay3 by 3;", 1, 4);
        check.isFault("quay 3by 3;", 1, 6);
        check.isFault("quay 3 by3;", 1, 9);
        check.isFaultBehind("lack a1 at 0 0 hue 1 high 0;", 1, 6);
        check.isFaultBehind("lack a at 0 0hue 1 high 0;", 1, 13);
        check.isFaultBehind("finds not1=1;", 1, 9);
        check.isFaultBehind("finds 1=1or all;", 1, 9);
        check.isFaultBehind("paceb 1;", 1, 0);
        // What is wrong with the first of the two comes ahead.
        check.isFault("quay 8by 3;", 4, 5);
        check.isFaultBehind("lack a at 0 0 hue 1 high 0;lack a1", 2, 32);
    }

    private void endsTooSoon() {
        check.of("1 at the text's length, if it ends too soon");
        String[] words = ALL_KINDS.split(" ");
        StringBuilder text = new StringBuilder();
        int statements = 0;
        for (String word : words) {
            text.append(word);
            if (word.equals(";")) {
                statements++;
                check.isWhole(text.toString(), statements);
            } else {
                check.isFault(text.toString(), 1, text.length());
                check.isFault(text + " \n ", 1, text.length() + 3);
            }
            text.append(' ');
        }
    }

    private void noStatement() {
        check.of("a text without a STATEMENT has FAULT 1 at its length");
        check.isFault("", 1, 0);
        check.isFault(" ", 1, 1);
        check.isFault("\n", 1, 1);
        check.isFault(" ".repeat(1600), 1, 1600);
    }

    /** The text with another word at one place. */
    private static String with(String[] words, int place, String other) {
        String[] all = words.clone();
        all[place] = other;
        return String.join(" ", all);
    }

    private static int startOf(String[] words, int place) {
        int start = 0;
        for (int k = 0; k < place; k++) {
            start += words[k].length() + 1;
        }
        return start;
    }

    private void wrongAnywhere() {
        check.of("1 the first byte with which no QUAY goes on (words and numbers whole, at their first byte)");
        String[] words = ALL_KINDS.split(" ");
        for (int k = 0; k < words.length; k++) {
            int start = startOf(words, k);
            boolean name = words[k].length() == 2 && (words[k].equals("ab") || words[k].equals("cd"));
            check.isFault(with(words, k, "?"), 1, start);
            if (!words[k].equals("by")) {
                check.isFault(with(words, k, "by"), 1, start);
            }
            if (!name) {
                check.isFault(with(words, k, "zz"), 1, start);
            }
            if (Character.isLetter(words[k].charAt(0)) && !name) {
                check.isFault(with(words, k, words[k] + "x"), 1, start);
                check.isFault(with(words, k, words[k].substring(1)), 1, start);
                check.isFault(with(words, k, words[k].toUpperCase()), 1, start);
            }
        }
    }

    private void tooLongAnywhere() {
        check.of("a 7th letter, a 5th digit at itself, whatever may stand there");
        String[] words = ALL_KINDS.split(" ");
        for (int k = 0; k < words.length; k++) {
            int start = startOf(words, k);
            check.isFault(with(words, k, "abcdefg"), 1, start + 6);
            check.isFault(with(words, k, "abcdefghijklmnop"), 1, start + 6);
            check.isFault(with(words, k, "12345"), 1, start + 4);
            check.isFault(with(words, k, "000000000"), 1, start + 4);
        }
        check.isFault(ALL_KINDS + "abcdefg", 1, ALL_KINDS.length() + 6);
        check.isFault(ALL_KINDS + "00000", 1, ALL_KINDS.length() + 4);
    }

    private void firstFault() {
        check.of("FAULTS, the first along the text");
        check.isFault("quay 2 by 2;", 4, 5);
        check.isFaultBehind("pace 0;gale 101;", 4, 5);
        check.isFaultBehind("wall 3 3;", 4, 5);
        check.isFaultBehind("has a;pace 0;", 3, 4);
        check.isFaultBehind("pace 0;has a;", 4, 5);
        String nine = Tape.things(9);
        check.isFaultBehind(nine + "lack a at 9 9 hue 0 high 10;", 6, nine.length());
        check.isFaultBehind(nine + "lack quay", 6, nine.length());
        check.isFaultBehind(Tape.folk(6) + "folk n at 9 9", 6, Tape.folk(6).length());
        check.isFaultBehind("glows 1;glows ((((((((", 6, 8);
        check.isFaultBehind("lack a at 0 0 hue 1 high 0;lack a at 9 9", 2, 32);
        check.isFaultBehind("lack a at 0 0 hue 1 high 0;lack b at 9 9 hue 0", 4, 37);
        check.isFaultBehind("glows ((((((((;", 5, 13);
        check.isFaultBehind("glows (((((((;", 1, 13);
    }

    private void unknownNames() {
        check.of("3 a NAME that is none of a THING, or of one that is not MISSING");
        String all = "lack ab at 0 0 hue 1 high 0;lack cd at 0 0 hue 1 high 0;folk ef at 0 0 home 0 0;has cd;";
        for (String name : new String[] {"ef", "cd", "a", "abc", "b", "zzzzzz"}) {
            check.isFaultBehind(all + "has " + name + ";", 3, all.length() + 4);
            check.isFaultBehind(all + "has \n" + name, 3, all.length() + 5);
        }
        check.isWhole(START + all + "has ab;", 6);
        check.of("told ahead of where they are asked");
        check.isFaultBehind("has ab;" + all, 3, 4);
    }

    private void rowOfTakenCell() {
        check.of("4 (of a CELL in which something is that must not be the row), at its first byte");
        check.isFaultBehind("wall 1 2;wall 1   2;", 4, 18);
        check.isFaultBehind("wall 1 2;wall 001 0002;", 4, 18);
        check.isFaultBehind("wall 1 2;lack a at 1\n2 hue 1 high 0;", 4, 21);
    }

    private void eighthOpen() {
        check.of("5 the 8th ( [ not that is open at once");
        String[] opens = {"(", "min(1,", "max(", "if(all,1,", "if(all,", "if(1<", "if([1<", "if(not 1<", "if(not [1<"};
        int[] counts = {1, 1, 1, 1, 1, 1, 2, 2, 3};
        for (int k = 0; k < opens.length; k++) {
            for (int more = 0; more < 8; more++) {
                // The first is filled up by brackets: seven may be open, the eighth may not.
                String text = "glows " + opens[k] + "(".repeat(more);
                if (counts[k] + more > 7) {
                    check.isFaultBehind(text, 5, text.length() - (counts[k] + more - 7));
                } else {
                    check.isFaultBehind(text, 1, text.length());
                }
            }
        }
        check.isFaultBehind("glows (((((((min(1,2", 5, 16);
        check.isFaultBehind("glows (((((((max(1,2", 5, 16);
        check.isFaultBehind("glows (((((((if(all", 5, 15);
        check.isFaultBehind("glows (((((((min 1", 1, 17);
        check.isFaultBehind("finds [[[[[[[not all", 5, 13);
        check.isFaultBehind("finds [[[[[[[[all", 5, 13);
        check.isFaultBehind("finds [[[[[[[(1", 5, 13);
        check.isFaultBehind("loses not not not not not not not [all", 5, 34);
        // What may not stand there at all is fault 1, open or not.
        check.isFaultBehind("glows (((((((not", 1, 13);
        check.isFaultBehind("glows ((((((([", 1, 13);
        check.isFaultBehind("glows (((((((1(", 1, 14);
        // Those that are closed are not open.
        check.isWhole(START + "glows ((((((1)+(2))))))+(((((((3)))))));", 2);
        check.isWhole(START + "finds [[[[[[[all] and [all]]]]]]] or [all];", 2);
    }

    private void notUntilItsFactEnds() {
        check.of("not until its FACT ends");
        String seven = "not ".repeat(7);
        check.isWhole(START + "finds " + seven + "all and " + seven + "1=2 or " + seven + "all;", 2);
        check.isFaultBehind("finds " + seven + "1=(2);", 5, 36);
        check.isFaultBehind("finds " + seven + "(1)=2;", 5, 34);
        check.isFaultBehind("finds not not [" + "not ".repeat(5) + "all;", 5, 31);
        check.isWhole(START + "finds not not [" + "not ".repeat(4) + "all and [not [not all]]];", 2);
        check.isWhole(START + "finds not 1=1 and [[[[[[[all]]]]]]];", 2);
        check.isFaultBehind("finds not [[[[[[[all]]]]]]];", 5, 16);
    }

    private void oneTooMany() {
        check.of("6 one too many of a kind of STATEMENT, at its first byte");
        String nine = Tape.things(9);
        String six = Tape.folk(6);
        check.isFaultBehind(nine + six + " \n lack", 6, nine.length() + six.length() + 3);
        check.isFaultBehind(nine + six + " folk", 6, nine.length() + six.length() + 1);
        for (String rule : new String[] {"glows 1;", "finds all;", "loses all;"}) {
            check.isFaultBehind(rule + "pace 1; " + rule.substring(0, 5), 6, rule.length() + 8);
        }
        // Of the other kinds there may be many.
        check.isWhole(START + "pace 1;".repeat(20) + "gale 1;".repeat(20) + "wall 0 0;wall 0 1;wall 0 2;wall 1 0;", 45);
    }

    private void eightyFirst() {
        check.of("6 the 81st STATEMENT (whatever it is), at its first byte");
        String full = "pace 1;".repeat(79);
        for (String last : new String[] {"pace 1;", "pace 0;", "quay 3 by 3;", "lack", "has z;", "zzz", "abcdefgh", "7", "12345",
            ";", "(", "?", "A", "\t"}) {
            check.isFaultBehind(full + last, 6, full.length());
            check.isFaultBehind(full + " \n " + last, 6, full.length() + 3);
        }
    }
}
