/** All that an object tells of itself, so that what it told ahead of a call can be held against what it tells behind it. */
final class Told {
    private Told() {
    }

    /** What stays when a call is refused: all but the fault, the count of refusals, and the tape. */
    static String all(MissingLamps lamps) {
        StringBuilder text = new StringBuilder("has");
        for (int what = 0; what < 13; what++) {
            text.append(' ').append(lamps.has(what));
        }
        for (int t = 0; t < lamps.has(3); t++) {
            text.append("; thing ").append(t);
            for (int what = 0; what < 7; what++) {
                text.append(' ').append(lamps.thing(t, what));
            }
            text.append(' ').append(lamps.hues(t));
        }
        for (int f = 0; f < lamps.has(4); f++) {
            text.append("; folk ").append(f);
            for (int what = 0; what < 5; what++) {
                text.append(' ').append(lamps.folk(f, what));
            }
        }
        for (int k = 0; k < lamps.has(9); k++) {
            text.append("; kept ").append(lamps.kept(k, 0)).append(' ').append(lamps.kept(k, 1)).append(' ').append(lamps.kept(k, 2));
        }
        return text.toString();
    }

    static String refusals(MissingLamps lamps) {
        StringBuilder text = new StringBuilder();
        for (int what = 0; what < 6; what++) {
            text.append(lamps.status(what)).append(' ');
        }
        return text.toString();
    }
}
