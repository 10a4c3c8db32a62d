/** Counts and prints the answers that are not as due. */
final class Check {
    private int wrong;
    private String sentence = "";

    /** The document's sentence that the checks from here on are of; it is printed with each that fails. */
    void of(String words) {
        sentence = "[" + words + "] ";
    }

    void due(String call, long got, long due) {
        if (got != due) {
            wrong++;
            System.out.println(sentence + call + " answered " + got + ", due is " + due);
        }
    }

    void due(String call, boolean got, boolean due) {
        due(call, got ? 1 : 0, due ? 1 : 0);
    }

    void due(String call, String got, String due) {
        if (!got.equals(due)) {
            wrong++;
            System.out.println(sentence + call + " is " + got + ", due is " + due);
        }
    }

    /** Where one of the folk is now. */
    void isAt(MissingLamps lamps, int folk, int column, int row) {
        due("folk(" + folk + ", 0)", lamps.folk(folk, 0), column);
        due("folk(" + folk + ", 1)", lamps.folk(folk, 1), row);
    }

    /** Where one of the folk is behind nights ahead. */
    void willBeAt(MissingLamps lamps, int folk, int n, int column, int row) {
        due("later(" + folk + ", " + n + ", 0)", lamps.later(folk, n, 0), column);
        due("later(" + folk + ", " + n + ", 1)", lamps.later(folk, n, 1), row);
    }

    /** A row that is told as kept. */
    void isKept(MissingLamps lamps, int k, int night, int thing, int found) {
        due("kept(" + k + ", 0)", lamps.kept(k, 0), night);
        due("kept(" + k + ", 1)", lamps.kept(k, 1), thing);
        due("kept(" + k + ", 2)", lamps.kept(k, 2), found);
    }

    /** Whom to send to which thing; as many things are told as there are folk. */
    void isSent(MissingLamps lamps, int count, int steps, int... things) {
        due("send(0)", lamps.send(0), count);
        due("send(1)", lamps.send(1), steps);
        for (int f = 0; f < things.length; f++) {
            due("send(" + (2 + f) + ")", lamps.send(2 + f), things[f]);
        }
        due("send beyond", lamps.send(2 + things.length), -1);
    }

    /** What tells most of a thing's hue. */
    void isTelling(MissingLamps lamps, int thing, int nights, int folk, int left) {
        due("tells(" + thing + ", 0)", lamps.tells(thing, 0), nights);
        due("tells(" + thing + ", 1)", lamps.tells(thing, 1), folk);
        due("tells(" + thing + ", 2)", lamps.tells(thing, 2), left);
    }

    void isImage(MissingLamps lamps, int... due) {
        due("image", lamps.image(), due.length);
        for (int k = 0; k < due.length; k++) {
            due("octet " + k, lamps.octet(k), due[k]);
        }
        due("octet beyond", lamps.octet(due.length), -1);
        due("octet -1", lamps.octet(-1), -1);
    }

    /** A text that is no quay, its fault and the fault's place. */
    void isFault(String text, int kind, int place) {
        MissingLamps lamps = new MissingLamps();
        due("quay() of " + text, Tape.quay(lamps, text), -1);
        due("fault(0) of " + text, lamps.fault(0), kind);
        due("fault(1) of " + text, lamps.fault(1), place);
        due("status(1) of " + text, lamps.status(1), 1);
    }

    /** A fault in what stands behind a first statement; the place counts from there. */
    void isFaultBehind(String text, int kind, int place) {
        isFault(Tape.START + text, kind, Tape.START.length() + place);
    }

    /** A text that is a quay of so many statements. */
    void isWhole(String text, int statements) {
        MissingLamps lamps = new MissingLamps();
        due("quay() of " + text, Tape.quay(lamps, text), statements);
        due("fault(0) of " + text, lamps.fault(0), 0);
        due("fault(1) of " + text, lamps.fault(1), -1);
        due("status(1) of " + text, lamps.status(1), 0);
    }

    void end() {
        System.exit(wrong == 0 ? 0 : 1);
    }
}
