/** Counts and prints the answers that are not as due. */
final class Check {
    private int wrong;

    void due(String call, long got, long due) {
        if (got != due) {
            wrong++;
            System.out.println(call + " answered " + got + ", due is " + due);
        }
    }

    void due(String call, boolean got, boolean due) {
        due(call, got ? 1 : 0, due ? 1 : 0);
    }

    /** Where one of the folk is now. */
    void isAt(MissingLamps lamps, int folk, int column, int row) {
        due("folk(" + folk + ", 0)", lamps.folk(folk, 0), column);
        due("folk(" + folk + ", 1)", lamps.folk(folk, 1), row);
    }

    /** Where one of the folk is behind nights ahead. */
    void willBeAt(MissingLamps lamps, int folk, int n, int column, int row) {
        due("later(" + folk + ", " + n + ", 0)", lamps.later(folk, n, 0), column);
        due("later(" + folk + ", " + n + ", 1)", lamps.later(folk, n, 1), row);
    }

    /** A row that is told as kept. */
    void isKept(MissingLamps lamps, int k, int night, int thing, int found) {
        due("kept(" + k + ", 0)", lamps.kept(k, 0), night);
        due("kept(" + k + ", 1)", lamps.kept(k, 1), thing);
        due("kept(" + k + ", 2)", lamps.kept(k, 2), found);
    }

    void end() {
        System.exit(wrong == 0 ? 0 : 1);
    }
}
