/** Terms I: each sentence about sums and tests that names an edge. */
public final class SumEdgesTest {
    private final Check check = new Check();

    public static void main(String[] args) {
        SumEdgesTest test = new SumEdgesTest();
        test.fromTheLeft();
        test.quotients();
        test.remainders();
        test.byZero();
        test.above();
        test.below();
        test.leastAndGreatest();
        test.choices();
        test.signs();
        test.facts();
        test.words();
        test.wordsOfNights();
        test.near();
        test.longRules();
        test.check.end();
    }

    /** Whether a test holds, by how far a lantern glows: hue 5, high 7, two of three things missing. */
    private void holds(String test, boolean due) {
        MissingLamps lamps = Tape.laid("quay 3 by 3;lack a at 0 0 hue 5 high 7;lack b at 0 0 hue 1 high 1;"
                + "lack c at 0 0 hue 1 high 1;has c;glows if(" + test + ",1,2);");
        check.due("whether " + test, lamps.thing(0, 6) == 1, due);
    }

    /** A sum is a number, and it is neither the one above it nor the one below it. */
    private void equal(String sum, int due) {
        holds(sum + "=" + told(due), true);
        if (due < 1000000) {
            holds(sum + "=" + told(due + 1), false);
            holds(sum + "<" + told(due + 1), true);
        }
        if (due > -1000000) {
            holds(sum + "=" + told(due - 1), false);
            holds(sum + ">" + told(due - 1), true);
        }
    }

    /** A number as a sum that does not go beyond the bounds on its way. */
    private static String told(int number) {
        String size = Math.abs(number) / 1000 + "*1000+" + Math.abs(number) % 1000;
        return number < 0 ? "(0-(" + size + "))" : "(" + size + ")";
    }

    private void fromTheLeft() {
        check.of("All from the left on");
        equal("8-3-2", 3);
        equal("8-3+2", 7);
        equal("8/2/2", 2);
        equal("8/2*2", 8);
        equal("7*2/3", 4);
        equal("7*2%4", 2);
        equal("7%4*2", 6);
        equal("9%5/2", 2);
        equal("9/2%3", 1);
        equal("2+3*4", 14);
        equal("2*3+4", 10);
        equal("20-9/2", 16);
        equal("20-9%5-1", 15);
        equal("(2+3)*4", 20);
        equal("20-(9-5)", 16);
    }

    private void quotients() {
        check.of("/ gives the greatest whole number not above");
        equal("7/2", 3);
        equal("8/2", 4);
        equal("0/2", 0);
        equal("1/2", 0);
        equal("(0-1)/2", -1);
        equal("(0-7)/2", -4);
        equal("(0-8)/2", -4);
        equal("7/(0-2)", -4);
        equal("8/(0-2)", -4);
        equal("(0-7)/(0-2)", 3);
        equal("(0-8)/(0-2)", 4);
        equal("1/(0-9999)", -1);
        equal("1000*1000/(0-1)", -1000000);
        equal("(0-1000*1000)/(0-1)", 1000000);
    }

    private void remainders() {
        check.of("% what is left (a less b times that)");
        equal("7%2", 1);
        equal("8%2", 0);
        equal("1%2", 1);
        equal("(0-7)%2", 1);
        equal("(0-8)%2", 0);
        equal("(0-1)%5", 4);
        equal("7%(0-2)", -1);
        equal("8%(0-2)", 0);
        equal("1%(0-5)", -4);
        equal("(0-7)%(0-2)", -1);
        equal("(0-1)%(1000*1000)", 999999);
        equal("1%(0-1000*1000)", -999999);
    }

    private void byZero() {
        check.of("by 0 both give 0");
        equal("7/0", 0);
        equal("7%0", 0);
        equal("0/0", 0);
        equal("0%0", 0);
        equal("(0-7)/0", 0);
        equal("(0-7)%0", 0);
        equal("7/(3-3)", 0);
        equal("7%(3-3)", 0);
        equal("9+7/0", 9);
        equal("9+7%0*2", 9);
        equal("if(all,4,7/0)", 4);
    }

    private void above() {
        check.of("each result above 10 to the 6 is that");
        equal("1000*1000-1", 999999);
        equal("999*1000+1000", 1000000);
        equal("1000*1000", 1000000);
        equal("1001*1000", 1000000);
        equal("9999*9999", 1000000);
        equal("1000*1000+1", 1000000);
        equal("1000*1000+1-1", 999999);
        equal("1000*1000-(0-1)-1", 999999);
        equal("1001*1000-1", 999999);
        equal("(0-1001)*(0-1000)-1", 999999);
        equal("1000*1000*1000*1000-1", 999999);
        equal("9999*9999/9999", 100);
        equal("9999*9999%9999", 1000000 % 9999);
        equal("1000*1000+1000*1000-1", 999999);
    }

    private void below() {
        check.of("below -10 to the 6 likewise");
        equal("1-1000*1000", -999999);
        equal("0-1000*1000", -1000000);
        equal("0-1000*1000-1", -1000000);
        equal("0-1000*1000-1+1", -999999);
        equal("(0-1000*1000)+(0-1)+1", -999999);
        equal("(0-1001)*1000+1", -999999);
        equal("1001*(0-1000)+1", -999999);
        equal("(0-1000*1000)*(1000*1000)+1", -999999);
        equal("0-1000*1000-1000*1000+1", -999999);
    }

    private void leastAndGreatest() {
        check.of("min ( SUM , SUM ) ; max ( SUM , SUM )");
        equal("min(3,8)", 3);
        equal("min(8,3)", 3);
        equal("min(4,4)", 4);
        equal("max(3,8)", 8);
        equal("max(8,3)", 8);
        equal("max(4,4)", 4);
        equal("min(0-3,2)", -3);
        equal("max(0-3,0-2)", -2);
        equal("9-min(1+2,8)*2", 3);
        equal("max(min(1,2),min(3,4))", 3);
    }

    private void choices() {
        check.of("if: the first SUM where the TEST holds, else the second one");
        equal("if(1=1,3,8)", 3);
        equal("if(1=2,3,8)", 8);
        equal("if(1=2,3,if(2=2,4,5))", 4);
        equal("if(not 1=2 and all,3+1,8)", 4);
        equal("9-if(all,0,1)*2", 9);
        equal("if(if(all,1,2)=1,if(all,6,7),8)", 6);
    }

    private void signs() {
        check.of("SUM SIGN SUM, SIGN < or > or =");
        String[] sums = {"0-2", "0-1", "0", "1", "2"};
        for (int a = 0; a < sums.length; a++) {
            for (int b = 0; b < sums.length; b++) {
                holds(sums[a] + "<" + sums[b], a < b);
                holds(sums[a] + ">" + sums[b], a > b);
                holds(sums[a] + "=" + sums[b], a == b);
            }
        }
    }

    private void facts() {
        check.of("TEST: BOTH { or BOTH }. BOTH: FACT { and FACT }. FACT: not FACT; [ TEST ] ; all");
        String[] facts = {"1=2", "all"};
        for (int k = 0; k < 8; k++) {
            boolean a = (k & 1) != 0;
            boolean b = (k & 2) != 0;
            boolean c = (k & 4) != 0;
            String left = facts[k & 1];
            String mid = facts[k >> 1 & 1];
            String right = facts[k >> 2];
            holds(left + " or " + mid + " and " + right, a || b && c);
            holds(left + " and " + mid + " or " + right, a && b || c);
            holds("[" + left + " or " + mid + "] and " + right, (a || b) && c);
            holds(left + " and [" + mid + " or " + right + "]", a && (b || c));
            holds(left + " and " + mid + " and " + right, a && b && c);
            holds(left + " or " + mid + " or " + right, a || b || c);
            holds("not " + left + " and " + mid, !a && b);
            holds("not " + left + " or " + mid, !a || b);
            holds("not [" + left + " or " + mid + "]", !(a || b));
            holds("not not " + left, a);
            holds("not " + left, !a);
        }
        holds("not 1<2", false);
        holds("not 2<1", true);
        holds("not 1>2", true);
        holds("not 2>1", false);
        holds("not 1=1", false);
        holds("not not 1<2", true);
        holds("not not 1>2", false);
        holds("[1<2] and not [1>2]", true);
        holds("1<2 and 3>2 and 2=2", true);
    }

    private void words() {
        check.of("of the THING its hue, how high; how many THINGS are MISSING");
        equal("hue", 5);
        equal("high", 7);
        equal("age", 0);
        equal("night", 0);
        equal("lost", 2);
    }

    private void wordsOfNights() {
        check.of("the NIGHT; for how many NIGHTS it has been MISSING, or not; how many THINGS are MISSING");
        MissingLamps lamps = Tape.laid("quay 3 by 3;lack a at 0 0 hue 1 high 0;lack b at 0 0 hue 1 high 0;has b;"
                + "loses age=2 and night=2 and lost=1;"
                + "glows if(night=2 and age=2 and lost=1,3,if(night=3 and age=3 and lost=2,4,0));");
        int[] due = {0, 0, 3, 4};
        for (int k = 0; k < due.length; k++) {
            check.due("a glows at " + k, lamps.thing(0, 6), due[k]);
            check.due("b at " + k, lamps.thing(1, 4), k == 3 ? 1 : 0);
            lamps.nights(1);
        }
        MissingLamps far = Tape.laid("quay 3 by 3;lack a at 0 0 hue 1 high 0;lack b at 0 0 hue 2 high 3;"
                + "glows if(hue=1,age,night+lost);finds not all;");
        for (int k = 0; k < 6; k++) {
            check.due("a's age", far.thing(0, 6), k);
            check.due("the night and two", far.thing(1, 6), k + 2);
            far.nights(1);
        }
    }

    private void near() {
        check.of("how many FOLK are in its CELL");
        for (int count = 0; count <= 6; count++) {
            MissingLamps lamps = Tape.laid("quay 3 by 3;lack a at 0 0 hue 1 high 0;lack b at 1 1 hue 1 high 0;finds near="
                    + count + ";" + Tape.folk(count));
            check.due(count + " are near a", lamps.missing(0, 1), 0);
            check.due("nobody is near b", lamps.missing(1, 1), count == 0 ? 0 : 1);
        }
    }

    private void longRules() {
        check.of("SUM, TEST: as long as the tape");
        check.due("1 as often", longGlow("1" + "*1".repeat(776)), 1);
        check.due("ones together", longGlow("1" + "+1-1".repeat(388)), 1);
        check.due("facts together", longGlow("if(all" + " and all".repeat(190) + ",3,4)"), 3);
        check.due("facts or facts", longGlow("if(not all" + " or not all".repeat(130) + ",3,4)"), 4);
        // The most that can wait for what is in brackets, at each level.
        StringBuilder deep = new StringBuilder("1");
        for (int k = 0; k < 7; k++) {
            deep.insert(0, "1+1*if(1=2 or 1=1 and 0+1*1=0+1*").append(",5-4*1,6)-1");
        }
        check.due("seven levels of all kinds", longGlow(deep.toString()), 1);
        StringBuilder last = new StringBuilder("8");
        for (int k = 0; k < 7; k++) {
            last.insert(0, "0+1*if(1=2,3,0+1*").append(")");
        }
        check.due("seven levels, the last sums", longGlow(last.toString()), 8);
    }

    private static int longGlow(String sum) {
        String text = "quay 3 by 3;lack a at 0 0 hue 1 high 0;glows ";
        return Tape.laid(text + sum + ";").thing(0, 6);
    }
}
