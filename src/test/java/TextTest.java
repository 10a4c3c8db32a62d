/** Promises 1 to 5: a new object, the tape, the text and its faults. */
public final class TextTest {
    private static final String START = "quay 3 by 3;";
    private static final String[] OWN = ("quay by pace gale wall lack at hue high has folk home glows finds loses night "
            + "age lost near if or and not all min max").split(" ");
    private final Check check = new Check();

    public static void main(String[] args) {
        TextTest test = new TextTest();
        test.newObject();
        test.tape();
        test.wholeTexts();
        test.textFaults();
        test.names();
        test.numbers();
        test.open();
        test.tooMany();
        test.ruleFaults();
        test.faultKeepsAll();
        test.newQuay();
        test.check.end();
    }

    private void newObject() {
        MissingLamps lamps = new MissingLamps();
        for (int what = 0; what < 12; what++) {
            check.due("new has " + what, lamps.has(what), 0);
        }
        check.due("new seed", lamps.has(12), 1);
        check.due("new fault", lamps.fault(0), 0);
        check.due("new place", lamps.fault(1), -1);
        check.due("fault(2)", lamps.fault(2), -1);
        check.due("fault(-1)", lamps.fault(-1), -1);
        check.due("new octet", lamps.octet(0), -1);
        for (int what = 0; what < 6; what++) {
            check.due("new status " + what, lamps.status(what), 0);
        }
    }

    private void tape() {
        MissingLamps lamps = new MissingLamps();
        for (int k = 1; k <= 80; k++) {
            check.due("feed", lamps.feed(-1, 0, 1, 2, 3), 20 * k);
        }
        check.due("feed beyond 1600", lamps.feed(0, 0, 0, 0, 0), -1);
        check.due("refused", lamps.status(0), 1);
        check.due("end(1601)", lamps.end(1601), false);
        check.due("end(-1)", lamps.end(-1), false);
        check.due("refused", lamps.status(0), 3);
        check.due("end(1600)", lamps.end(1600), true);
        check.due("end(1581)", lamps.end(1581), true);
        check.due("feed to 1601", lamps.feed(0, 0, 0, 0, 0), -1);
        check.due("end(1580)", lamps.end(1580), true);
        check.due("feed to 1600", lamps.feed(0, 0, 0, 0, 0), 1600);
        check.due("end(0)", lamps.end(0), true);
        check.due("feed", lamps.feed(1903518073, 540221538, 2032153403, 0, 0), 20);
        check.due("end(12)", lamps.end(12), true);
        check.due("quay", lamps.quay(), 1);
        check.due("the tape is gone", lamps.end(1), false);
        check.due("refused", lamps.status(0), 5);
    }

    private void fault(String text, int kind, int place) {
        MissingLamps lamps = new MissingLamps();
        check.due("quay() of " + text, Tape.quay(lamps, text), -1);
        check.due("fault(0) of " + text, lamps.fault(0), kind);
        check.due("fault(1) of " + text, lamps.fault(1), place);
        check.due("status(1) of " + text, lamps.status(1), 1);
    }

    /** A fault in what stands behind the first statement; the place counts from there. */
    private void faultBehind(String text, int kind, int place) {
        fault(START + text, kind, START.length() + place);
    }

    private void whole(String text, int statements) {
        MissingLamps lamps = new MissingLamps();
        check.due("quay() of " + text, Tape.quay(lamps, text), statements);
        check.due("fault(0) of " + text, lamps.fault(0), 0);
        check.due("fault(1) of " + text, lamps.fault(1), -1);
    }

    private void wholeTexts() {
        whole("quay 3 by 3;", 1);
        whole("quay 7 by 7;", 1);
        whole(" \nquay\n3   by 3\n ; \n", 1);
        whole("quay 0003 by 07;", 1);
        whole(START + "pace 1;pace 9;gale 0;gale 100;", 5);
        whole(START + "lack abcdef at 2 2 hue 9 high 9;has abcdef;folk a at 2 2 home 2 2;", 4);
        whole(START + "glows(1);finds[all];", 3);
        whole(START + "glows 9999 + 0 * night;loses not lost < 3 or [ all ] ;", 3);
    }

    private void textFaults() {
        fault("", 1, 0);
        fault("  \n", 1, 3);
        fault("pace 1;", 1, 0);
        fault(";", 1, 0);
        fault("3", 1, 0);
        fault("Quay 3 by 3;", 1, 0);
        fault("qua", 1, 0);
        fault("quays 3 by 3;", 1, 0);
        fault("quay", 1, 4);
        fault("quay ", 1, 5);
        fault("quay by 3", 1, 5);
        fault("quay 3 by 3", 1, 11);
        fault("quay 3 by 3 \n", 1, 13);
        fault("quay 3 b", 1, 7);
        fault("quay3 by 3;", 1, 4);
        fault("quay 3by 3;", 1, 6);
        fault("quay 3 by3;", 1, 9);
        faultBehind(";", 1, 0);
        faultBehind("quay 3 by 3;", 1, 0);
        faultBehind("pac 1;", 1, 0);
        faultBehind("by 1;", 1, 0);
        faultBehind("a;", 1, 0);
        faultBehind("\tpace 1;", 1, 0);
        faultBehind("pace;", 1, 4);
        faultBehind("pace 1 1;", 1, 7);
        faultBehind("pace -1;", 1, 5);
        faultBehind("pace 1", 1, 6);
        faultBehind("paceful 1;", 1, 6);
        faultBehind("pace abcdefg;", 1, 11);
        faultBehind("pace 12345;", 1, 9);
        faultBehind("abcdefgh", 1, 6);
        faultBehind("12345", 1, 4);
        faultBehind("wall 1;", 1, 6);
        faultBehind("wall 1,1;", 1, 6);
        faultBehind("lack a at 0 0 high 1;", 1, 14);
        faultBehind("lack a at 0 0 hue 1;", 1, 19);
        faultBehind("folk a at 0 0;", 1, 13);
        faultBehind("has;", 1, 3);
        faultBehind("gale 1 \u00e9;", 1, 7);
    }

    private void names() {
        for (String own : OWN) {
            faultBehind("lack " + own + " at", 1, 5);
            faultBehind("folk " + own + " at", 1, 5);
            faultBehind("has " + own + ";", 1, 4);
        }
        String both = "lack a at 0 0 hue 1 high 1;folk b at 0 0 home 0 0;";
        int from = both.length();
        faultBehind("lack abcdefg", 1, 11);
        faultBehind("lack aB", 1, 6);
        faultBehind("lack 1", 1, 5);
        faultBehind(both + "lack b at", 2, from + 5);
        faultBehind(both + "lack a at", 2, from + 5);
        faultBehind(both + "folk a at", 2, from + 5);
        faultBehind(both + "folk b", 2, from + 5);
        faultBehind(both + "has b;", 3, from + 4);
        faultBehind(both + "has c", 3, from + 4);
        faultBehind(both + "has a;has a;", 3, from + 10);
        faultBehind("has a;lack a at 0 0 hue 1 high 1;", 3, 4);
        whole(START + both + "lack ab at 0 0 hue 1 high 1;has ab;has a;", 6);
    }

    private void numbers() {
        fault("quay 2 by 3;", 4, 5);
        fault("quay 8 by 3;", 4, 5);
        fault("quay 3 by 2;", 4, 10);
        fault("quay 3 by 0008;", 4, 10);
        faultBehind("pace 0;", 4, 5);
        faultBehind("pace 10;", 4, 5);
        faultBehind("gale 101;", 4, 5);
        faultBehind("wall 3 0;", 4, 5);
        faultBehind("wall 0 3;", 4, 7);
        faultBehind("wall 0 0;wall 0 0;", 4, 16);
        faultBehind("lack a at 3 0", 4, 10);
        faultBehind("lack a at 0 3", 4, 12);
        faultBehind("lack a at 0 0 hue 0", 4, 18);
        faultBehind("lack a at 0 0 hue 10", 4, 18);
        faultBehind("lack a at 0 0 hue 1 high 10", 4, 25);
        faultBehind("lack a at 1 2 hue 1 high 0;wall 1 2;", 4, 34);
        faultBehind("wall 1 2;lack a at 1 2", 4, 21);
        faultBehind("wall 1 2;folk a at 1 2", 4, 21);
        faultBehind("wall 1 2;folk a at 1 1 home 1 2", 4, 30);
        faultBehind("folk a at 1 1 home 3 0", 4, 19);
        faultBehind("folk a at 1 1 home 0 3", 4, 21);
        faultBehind("folk a at 1 1 home 2 2;wall 1 1;", 4, 30);
        faultBehind("folk a at 1 1 home 2 2;wall 2 2;", 4, 30);
        whole("quay 7 by 3;wall 6 2;wall 0 0;", 3);
        whole(START + "lack a at 0 0 hue 1 high 0;lack b at 0 0 hue 9 high 9;folk c at 0 0 home 0 0;", 4);
    }

    private void open() {
        whole(START + "glows (((((((1)))))));", 2);
        faultBehind("glows ((((((((1))))))));", 5, 13);
        faultBehind("glows ((((((((", 5, 13);
        whole(START + "finds not not not not not not not all;", 2);
        faultBehind("finds not not not not not not not not all;", 5, 34);
        whole(START + "finds [[[[[[[all]]]]]]];", 2);
        faultBehind("finds [[[[[[[[all]]]]]]]];", 5, 13);
        whole(START + "finds not not not not not not not all and not not not not not not not all;", 2);
        whole(START + "glows min(min(min(min(min(min(min(1,2),3),4),5),6),7),8);", 2);
        faultBehind("glows min(max(min(max(min(max(min(min(1", 5, 37);
        faultBehind("finds not [not (if(not [1", 1, 25);
        faultBehind("finds not [not (1+if(not [not all", 5, 26);
        whole(START + "finds not [not (1+if(not [1=2],2,3))=4];", 2);
        faultBehind("glows if(not [not (((((1", 5, 21);
        faultBehind("finds not not not not not not not 1=(2)", 5, 36);
        whole(START + "glows if(all,((((((1)))))),((((((2)))))));", 2);
        faultBehind("glows if(all,(((((((1))))))),2);", 5, 19);
        faultBehind("glows if(all,1,(((((((2))))))));", 5, 21);
        faultBehind("glows if(((((((( 1", 5, 15);
        faultBehind("glows min(1,(((((((2))))))));", 5, 18);
        whole(START + "glows (1)+(2)*(3)-(4)+(5)+(6)+(7)+(8)+(9);", 2);
    }

    private void tooMany() {
        StringBuilder things = new StringBuilder();
        for (char c = 'a'; c < 'j'; c++) {
            things.append("lack ").append(c).append(" at 0 0 hue 1 high 1;");
        }
        whole(START + things, 10);
        faultBehind(things + " lack x", 6, things.length() + 1);
        faultBehind(things + "lack", 6, things.length());
        StringBuilder folk = new StringBuilder();
        for (char c = 'm'; c < 's'; c++) {
            folk.append("folk ").append(c).append(" at 0 0 home 0 0;");
        }
        whole(START + things + folk, 16);
        faultBehind(folk + "folk x", 6, folk.length());
        for (String rule : new String[] {"glows 1;", "finds all;", "loses all;"}) {
            faultBehind(rule + rule, 6, rule.length());
        }
        String full = "pace 1;".repeat(79);
        whole(START + full, 80);
        whole(START + full + " \n", 80);
        for (String last : new String[] {"pace 1;", "quay 3 by 3;", "nothing", "x", "glows", "lack"}) {
            faultBehind(full + " " + last, 6, full.length() + 1);
        }
    }

    private void ruleFaults() {
        faultBehind("glows near;", 1, 6);
        faultBehind("glows if(near>0,1,2);", 1, 9);
        faultBehind("finds lost>1;", 1, 6);
        faultBehind("loses near>1;", 1, 6);
        faultBehind("loses age>near;", 1, 10);
        faultBehind("glows;", 1, 5);
        faultBehind("glows 1+;", 1, 8);
        faultBehind("glows +1;", 1, 6);
        faultBehind("glows 1 2;", 1, 8);
        faultBehind("glows hue high;", 1, 10);
        faultBehind("glows a;", 1, 6);
        faultBehind("glows home;", 1, 6);
        faultBehind("glows 1>0;", 1, 7);
        faultBehind("glows all;", 1, 6);
        faultBehind("glows [1];", 1, 6);
        faultBehind("glows (1;", 1, 8);
        faultBehind("glows 1);", 1, 7);
        faultBehind("glows min 1;", 1, 10);
        faultBehind("glows min(1);", 1, 11);
        faultBehind("glows min(1,2,3);", 1, 13);
        faultBehind("glows if(1,2,3);", 1, 10);
        faultBehind("glows if(all,2);", 1, 14);
        faultBehind("finds 1;", 1, 7);
        faultBehind("finds (1>0);", 1, 8);
        faultBehind("finds [1];", 1, 8);
        faultBehind("finds 1<2<3;", 1, 9);
        faultBehind("finds all or;", 1, 12);
        faultBehind("finds all all;", 1, 10);
        faultBehind("finds not;", 1, 9);
        faultBehind("finds [all;", 1, 10);
        faultBehind("finds all];", 1, 9);
        faultBehind("glows 12345;", 1, 10);
        faultBehind("glows hue2;", 1, 9);
        faultBehind("finds 1>0and all;", 1, 9);
    }

    private void faultKeepsAll() {
        MissingLamps lamps = Tape.laid("quay 4 by 3;lack a at 0 0 hue 2 high 1;folk f at 3 0 home 1 0;");
        lamps.nights(2);
        lamps.find(0);
        Tape.bytes(lamps, 0, 0, 3, 0);
        check.due("meet", lamps.meet(), 1);
        check.due("quay", Tape.quay(lamps, "quay 5 by 5;wall 1 1;glows 1;pace 0;"), -1);
        check.due("fault", lamps.fault(0), 4);
        check.due("columns stay", lamps.has(0), 4);
        check.due("night stays", lamps.has(5), 2);
        check.due("walls stay", lamps.has(2), 0);
        check.due("kept stays", lamps.has(9), 1);
        check.due("met stays", lamps.has(10), 1);
        check.due("acts stay", lamps.has(11), 2);
        check.due("undo", lamps.undo(), true);
        check.due("glow stays", lamps.thing(0, 6), 2);
        check.due("tape is gone", lamps.end(1), false);
    }

    private void newQuay() {
        MissingLamps lamps = Tape.laid("quay 4 by 3;gale 40;pace 9;wall 2 2;lack a at 0 0 hue 2 high 1;has a;"
                + "folk f at 3 0 home 1 0;glows 5;finds all;loses all;");
        lamps.chance(3);
        lamps.lose(7);
        Tape.bytes(lamps, 0, 0, 3, 0);
        lamps.meet();
        int drawn = lamps.has(12);
        int size = lamps.image();
        check.due("bad quay", Tape.quay(lamps, "quay"), -1);
        check.due("quay", Tape.quay(lamps, "quay 5 by 7;lack b at 4 6 hue 1 high 2;"), 2);
        int[] due = {5, 7, 0, 1, 0, 0, 1, 3, 0, 0, 0, 0, drawn, -1};
        for (int what = 0; what < due.length; what++) {
            check.due("has " + what + " of the new quay", lamps.has(what), due[what]);
        }
        check.due("fault is gone", lamps.fault(0), 0);
        check.due("place is gone", lamps.fault(1), -1);
        check.due("undo", lamps.undo(), false);
        check.due("hues", lamps.hues(0), 511);
        check.due("refusals stay", lamps.status(3), 1);
        check.due("refusals stay", lamps.status(1), 1);
        check.due("the image stays", lamps.octet(size - 1) >= 0, true);
        check.due("no rule is left: found", lamps.nights(3), 0);
        check.due("no rule is left: glow", lamps.thing(0, 6), 1);
    }
}
