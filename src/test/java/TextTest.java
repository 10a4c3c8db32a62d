/** Promises 1 to 5: a new object, the tape, the text and its faults. */
public final class TextTest {
    private static final String START = Tape.START;
    private static final String[] OWN = ("quay by pace gale wall lack at hue high has folk home glows finds loses night "
            + "age lost near if or and not all min max").split(" ");
    private final Check check = new Check();

    public static void main(String[] args) {
        TextTest test = new TextTest();
        test.newObject();
        test.tape();
        test.wholeTexts();
        test.textFaults();
        test.names();
        test.numbers();
        test.open();
        test.tooMany();
        test.ruleFaults();
        test.faultKeepsAll();
        test.newQuay();
        test.check.end();
    }

    private void newObject() {
        MissingLamps lamps = new MissingLamps();
        for (int what = 0; what < 12; what++) {
            check.due("new has " + what, lamps.has(what), 0);
        }
        check.due("new seed", lamps.has(12), 1);
        check.due("new fault", lamps.fault(0), 0);
        check.due("new place", lamps.fault(1), -1);
        check.due("fault(2)", lamps.fault(2), -1);
        check.due("fault(-1)", lamps.fault(-1), -1);
        check.due("new octet", lamps.octet(0), -1);
        for (int what = 0; what < 6; what++) {
            check.due("new status " + what, lamps.status(what), 0);
        }
    }

    private void tape() {
        MissingLamps lamps = new MissingLamps();
        for (int k = 1; k <= 80; k++) {
            check.due("feed", lamps.feed(-1, 0, 1, 2, 3), 20 * k);
        }
        check.due("feed beyond 1600", lamps.feed(0, 0, 0, 0, 0), -1);
        check.due("refused", lamps.status(0), 1);
        check.due("end(1601)", lamps.end(1601), false);
        check.due("end(-1)", lamps.end(-1), false);
        check.due("refused", lamps.status(0), 3);
        check.due("end(1600)", lamps.end(1600), true);
        check.due("end(1581)", lamps.end(1581), true);
        check.due("feed to 1601", lamps.feed(0, 0, 0, 0, 0), -1);
        check.due("end(1580)", lamps.end(1580), true);
        check.due("feed to 1600", lamps.feed(0, 0, 0, 0, 0), 1600);
        check.due("end(0)", lamps.end(0), true);
        check.due("feed", lamps.feed(1903518073, 540221538, 2032153403, 0, 0), 20);
        check.due("end(12)", lamps.end(12), true);
        check.due("quay", lamps.quay(), 1);
        check.due("the tape is gone", lamps.end(1), false);
        check.due("refused", lamps.status(0), 5);
    }

    private void wholeTexts() {
        check.isWhole("quay 3 by 3;", 1);
        check.isWhole("quay 7 by 7;", 1);
        check.isWhole(" \nquay\n3   by 3\n ; \n", 1);
        check.isWhole("quay 0003 by 07;", 1);
        check.isWhole(START + "pace 1;pace 9;gale 0;gale 100;", 5);
        check.isWhole(START + "lack abcdef at 2 2 hue 9 high 9;has abcdef;folk a at 2 2 home 2 2;", 4);
        check.isWhole(START + "glows(1);finds[all];", 3);
        check.isWhole(START + "glows 9999 + 0 * night;loses not lost < 3 or [ all ] ;", 3);
    }

    private void textFaults() {
        check.isFault("", 1, 0);
        check.isFault("  \n", 1, 3);
        check.isFault("pace 1;", 1, 0);
        check.isFault(";", 1, 0);
        check.isFault("3", 1, 0);
        check.isFault("Quay 3 by 3;", 1, 0);
        check.isFault("qua", 1, 0);
        check.isFault("quays 3 by 3;", 1, 0);
        check.isFault("quay", 1, 4);
        check.isFault("quay ", 1, 5);
        check.isFault("quay by 3", 1, 5);
        check.isFault("quay 3 by 3", 1, 11);
        check.isFault("quay 3 by 3 \n", 1, 13);
        check.isFault("quay 3 b", 1, 7);
        check.isFault("quay3 by 3;", 1, 4);
        check.isFault("quay 3by 3;", 1, 6);
        check.isFault("quay 3 by3;", 1, 9);
        check.isFaultBehind(";", 1, 0);
        check.isFaultBehind("quay 3 by 3;", 1, 0);
        check.isFaultBehind("pac 1;", 1, 0);
        check.isFaultBehind("by 1;", 1, 0);
        check.isFaultBehind("a;", 1, 0);
        check.isFaultBehind("\tpace 1;", 1, 0);
        check.isFaultBehind("pace;", 1, 4);
        check.isFaultBehind("pace 1 1;", 1, 7);
        check.isFaultBehind("pace -1;", 1, 5);
        check.isFaultBehind("pace 1", 1, 6);
        check.isFaultBehind("paceful 1;", 1, 6);
        check.isFaultBehind("pace abcdefg;", 1, 11);
        check.isFaultBehind("pace 12345;", 1, 9);
        check.isFaultBehind("abcdefgh", 1, 6);
        check.isFaultBehind("12345", 1, 4);
        check.isFaultBehind("wall 1;", 1, 6);
        check.isFaultBehind("wall 1,1;", 1, 6);
        check.isFaultBehind("lack a at 0 0 high 1;", 1, 14);
        check.isFaultBehind("lack a at 0 0 hue 1;", 1, 19);
        check.isFaultBehind("folk a at 0 0;", 1, 13);
        check.isFaultBehind("has;", 1, 3);
        check.isFaultBehind("gale 1 \u00e9;", 1, 7);
    }

    private void names() {
        for (String own : OWN) {
            check.isFaultBehind("lack " + own + " at", 1, 5);
            check.isFaultBehind("folk " + own + " at", 1, 5);
            check.isFaultBehind("has " + own + ";", 1, 4);
        }
        String both = "lack a at 0 0 hue 1 high 1;folk b at 0 0 home 0 0;";
        int from = both.length();
        check.isFaultBehind("lack abcdefg", 1, 11);
        check.isFaultBehind("lack aB", 1, 6);
        check.isFaultBehind("lack 1", 1, 5);
        check.isFaultBehind(both + "lack b at", 2, from + 5);
        check.isFaultBehind(both + "lack a at", 2, from + 5);
        check.isFaultBehind(both + "folk a at", 2, from + 5);
        check.isFaultBehind(both + "folk b", 2, from + 5);
        check.isFaultBehind(both + "has b;", 3, from + 4);
        check.isFaultBehind(both + "has c", 3, from + 4);
        check.isFaultBehind(both + "has a;has a;", 3, from + 10);
        check.isFaultBehind("has a;lack a at 0 0 hue 1 high 1;", 3, 4);
        check.isWhole(START + both + "lack ab at 0 0 hue 1 high 1;has ab;has a;", 6);
    }

    private void numbers() {
        check.isFault("quay 2 by 3;", 4, 5);
        check.isFault("quay 8 by 3;", 4, 5);
        check.isFault("quay 3 by 2;", 4, 10);
        check.isFault("quay 3 by 0008;", 4, 10);
        check.isFaultBehind("pace 0;", 4, 5);
        check.isFaultBehind("pace 10;", 4, 5);
        check.isFaultBehind("gale 101;", 4, 5);
        check.isFaultBehind("wall 3 0;", 4, 5);
        check.isFaultBehind("wall 0 3;", 4, 7);
        check.isFaultBehind("wall 0 0;wall 0 0;", 4, 16);
        check.isFaultBehind("lack a at 3 0", 4, 10);
        check.isFaultBehind("lack a at 0 3", 4, 12);
        check.isFaultBehind("lack a at 0 0 hue 0", 4, 18);
        check.isFaultBehind("lack a at 0 0 hue 10", 4, 18);
        check.isFaultBehind("lack a at 0 0 hue 1 high 10", 4, 25);
        check.isFaultBehind("lack a at 1 2 hue 1 high 0;wall 1 2;", 4, 34);
        check.isFaultBehind("wall 1 2;lack a at 1 2", 4, 21);
        check.isFaultBehind("wall 1 2;folk a at 1 2", 4, 21);
        check.isFaultBehind("wall 1 2;folk a at 1 1 home 1 2", 4, 30);
        check.isFaultBehind("folk a at 1 1 home 3 0", 4, 19);
        check.isFaultBehind("folk a at 1 1 home 0 3", 4, 21);
        check.isFaultBehind("folk a at 1 1 home 2 2;wall 1 1;", 4, 30);
        check.isFaultBehind("folk a at 1 1 home 2 2;wall 2 2;", 4, 30);
        check.isWhole("quay 7 by 3;wall 6 2;wall 0 0;", 3);
        check.isWhole(START + "lack a at 0 0 hue 1 high 0;lack b at 0 0 hue 9 high 9;folk c at 0 0 home 0 0;", 4);
    }

    private void open() {
        check.isWhole(START + "glows (((((((1)))))));", 2);
        check.isFaultBehind("glows ((((((((1))))))));", 5, 13);
        check.isFaultBehind("glows ((((((((", 5, 13);
        check.isWhole(START + "finds not not not not not not not all;", 2);
        check.isFaultBehind("finds not not not not not not not not all;", 5, 34);
        check.isWhole(START + "finds [[[[[[[all]]]]]]];", 2);
        check.isFaultBehind("finds [[[[[[[[all]]]]]]]];", 5, 13);
        check.isWhole(START + "finds not not not not not not not all and not not not not not not not all;", 2);
        check.isWhole(START + "glows min(min(min(min(min(min(min(1,2),3),4),5),6),7),8);", 2);
        check.isFaultBehind("glows min(max(min(max(min(max(min(min(1", 5, 37);
        check.isFaultBehind("finds not [not (if(not [1", 1, 25);
        check.isFaultBehind("finds not [not (1+if(not [not all", 5, 26);
        check.isWhole(START + "finds not [not (1+if(not [1=2],2,3))=4];", 2);
        check.isFaultBehind("glows if(not [not (((((1", 5, 21);
        check.isFaultBehind("finds not not not not not not not 1=(2)", 5, 36);
        check.isWhole(START + "glows if(all,((((((1)))))),((((((2)))))));", 2);
        check.isFaultBehind("glows if(all,(((((((1))))))),2);", 5, 19);
        check.isFaultBehind("glows if(all,1,(((((((2))))))));", 5, 21);
        check.isFaultBehind("glows if(((((((( 1", 5, 15);
        check.isFaultBehind("glows min(1,(((((((2))))))));", 5, 18);
        check.isWhole(START + "glows (1)+(2)*(3)-(4)+(5)+(6)+(7)+(8)+(9);", 2);
    }

    private void tooMany() {
        StringBuilder things = new StringBuilder();
        for (char c = 'a'; c < 'j'; c++) {
            things.append("lack ").append(c).append(" at 0 0 hue 1 high 1;");
        }
        check.isWhole(START + things, 10);
        check.isFaultBehind(things + " lack x", 6, things.length() + 1);
        check.isFaultBehind(things + "lack", 6, things.length());
        StringBuilder folk = new StringBuilder();
        for (char c = 'm'; c < 's'; c++) {
            folk.append("folk ").append(c).append(" at 0 0 home 0 0;");
        }
        check.isWhole(START + things + folk, 16);
        check.isFaultBehind(folk + "folk x", 6, folk.length());
        for (String rule : new String[] {"glows 1;", "finds all;", "loses all;"}) {
            check.isFaultBehind(rule + rule, 6, rule.length());
        }
        String full = "pace 1;".repeat(79);
        check.isWhole(START + full, 80);
        check.isWhole(START + full + " \n", 80);
        for (String last : new String[] {"pace 1;", "quay 3 by 3;", "nothing", "x", "glows", "lack"}) {
            check.isFaultBehind(full + " " + last, 6, full.length() + 1);
        }
    }

    private void ruleFaults() {
        check.isFaultBehind("glows near;", 1, 6);
        check.isFaultBehind("glows if(near>0,1,2);", 1, 9);
        check.isFaultBehind("finds lost>1;", 1, 6);
        check.isFaultBehind("loses near>1;", 1, 6);
        check.isFaultBehind("loses age>near;", 1, 10);
        check.isFaultBehind("glows;", 1, 5);
        check.isFaultBehind("glows 1+;", 1, 8);
        check.isFaultBehind("glows +1;", 1, 6);
        check.isFaultBehind("glows 1 2;", 1, 8);
        check.isFaultBehind("glows hue high;", 1, 10);
        check.isFaultBehind("glows a;", 1, 6);
        check.isFaultBehind("glows home;", 1, 6);
        check.isFaultBehind("glows 1>0;", 1, 7);
        check.isFaultBehind("glows all;", 1, 6);
        check.isFaultBehind("glows [1];", 1, 6);
        check.isFaultBehind("glows (1;", 1, 8);
        check.isFaultBehind("glows 1);", 1, 7);
        check.isFaultBehind("glows min 1;", 1, 10);
        check.isFaultBehind("glows min(1);", 1, 11);
        check.isFaultBehind("glows min(1,2,3);", 1, 13);
        check.isFaultBehind("glows if(1,2,3);", 1, 10);
        check.isFaultBehind("glows if(all,2);", 1, 14);
        check.isFaultBehind("finds 1;", 1, 7);
        check.isFaultBehind("finds (1>0);", 1, 8);
        check.isFaultBehind("finds [1];", 1, 8);
        check.isFaultBehind("finds 1<2<3;", 1, 9);
        check.isFaultBehind("finds all or;", 1, 12);
        check.isFaultBehind("finds all all;", 1, 10);
        check.isFaultBehind("finds not;", 1, 9);
        check.isFaultBehind("finds [all;", 1, 10);
        check.isFaultBehind("finds all];", 1, 9);
        check.isFaultBehind("glows 12345;", 1, 10);
        check.isFaultBehind("glows hue2;", 1, 9);
        check.isFaultBehind("finds 1>0and all;", 1, 9);
    }

    private void faultKeepsAll() {
        MissingLamps lamps = Tape.laid("quay 4 by 3;lack a at 0 0 hue 2 high 1;folk f at 3 0 home 1 0;");
        lamps.nights(2);
        lamps.find(0);
        Tape.bytes(lamps, 0, 0, 3, 0);
        check.due("meet", lamps.meet(), 1);
        check.due("quay", Tape.quay(lamps, "quay 5 by 5;wall 1 1;glows 1;pace 0;"), -1);
        check.due("fault", lamps.fault(0), 4);
        check.due("columns stay", lamps.has(0), 4);
        check.due("night stays", lamps.has(5), 2);
        check.due("walls stay", lamps.has(2), 0);
        check.due("kept stays", lamps.has(9), 1);
        check.due("met stays", lamps.has(10), 1);
        check.due("acts stay", lamps.has(11), 2);
        check.due("undo", lamps.undo(), true);
        check.due("glow stays", lamps.thing(0, 6), 2);
        check.due("tape is gone", lamps.end(1), false);
    }

    private void newQuay() {
        MissingLamps lamps = Tape.laid("quay 4 by 3;gale 40;pace 9;wall 2 2;lack a at 0 0 hue 2 high 1;has a;"
                + "folk f at 3 0 home 1 0;glows 5;finds all;loses all;");
        lamps.chance(3);
        lamps.lose(7);
        Tape.bytes(lamps, 0, 0, 3, 0);
        lamps.meet();
        int drawn = lamps.has(12);
        int size = lamps.image();
        check.due("bad quay", Tape.quay(lamps, "quay"), -1);
        check.due("quay", Tape.quay(lamps, "quay 5 by 7;lack b at 4 6 hue 1 high 2;"), 2);
        int[] due = {5, 7, 0, 1, 0, 0, 1, 3, 0, 0, 0, 0, drawn, -1};
        for (int what = 0; what < due.length; what++) {
            check.due("has " + what + " of the new quay", lamps.has(what), due[what]);
        }
        check.due("fault is gone", lamps.fault(0), 0);
        check.due("place is gone", lamps.fault(1), -1);
        check.due("undo", lamps.undo(), false);
        check.due("hues", lamps.hues(0), 511);
        check.due("refusals stay", lamps.status(3), 1);
        check.due("refusals stay", lamps.status(1), 1);
        check.due("the image stays", lamps.octet(size - 1) >= 0, true);
        check.due("no rule is left: found", lamps.nights(3), 0);
        check.due("no rule is left: glow", lamps.thing(0, 6), 1);
    }
}
