import java.util.ArrayList;
import java.util.List;
import java.util.Random;

/** Makes texts of quays at random: whole ones, and ones with something wrong. */
final class TextMaker {
    private static final String[] PIECES = {"quay", "by", "pace", "gale", "wall", "lack", "at", "hue", "high", "has",
        "folk", "home", "glows", "finds", "loses", "night", "age", "lost", "near", "if", "or", "and", "not", "all",
        "min", "max", "((((((", "not not not not not ", "[[[[[", "min(1,", "if(all,", "a", "b", "zzz", "abcdefg", "0", "1",
        "3", "7", "9", "10", "100", "101", "9999", "12345", ";", "(",
        ")", "[", "]", ",", "+", "-", "*", "/", "%", "<", ">", "=", "#", "A", "\n", " ", "\t", "\u00e9"};
    private final Random random;
    private final List<String> names = new ArrayList<>();
    private String rule;

    TextMaker(Random random) {
        this.random = random;
    }

    /** A whole text that leaves some room on the tape. */
    String whole() {
        String text = anyWhole();
        return text.length() < 1200 ? text : whole();
    }

    private String anyWhole() {
        names.clear();
        int columns = 3 + random.nextInt(5);
        int rows = 3 + random.nextInt(5);
        boolean[][] wall = new boolean[columns][rows];
        StringBuilder text = new StringBuilder("quay " + columns + " by " + rows + ";");
        if (random.nextInt(4) > 0) {
            text.append("pace ").append(1 + random.nextInt(random.nextBoolean() ? 3 : 9)).append(';');
        }
        if (random.nextInt(4) > 0) {
            text.append("gale ").append(random.nextInt(101)).append(';');
        }
        for (int k = random.nextInt(1 + columns * rows / 3); k > 0; k--) {
            int x = random.nextInt(columns);
            int y = random.nextInt(rows);
            if (!wall[x][y]) {
                wall[x][y] = true;
                text.append("wall ").append(x).append(' ').append(y).append(';');
            }
        }
        things(text, wall);
        folk(text, wall);
        rules(text);
        return text.toString();
    }

    /** Each rule is told at random, or is one by which something happens, or is left out. */
    private void rules(StringBuilder text) {
        String[] glows = {"hue", "hue/2", "hue-age/3", "min(hue,3)", "if(high>4,hue,1)", "hue%4", "if(night%3=1,0,hue)",
            "(hue+lost)/3", "hue-4"};
        String[] finds = {"near>0 and age>1", "near>0 and hue<5", "age>hue", "near>1 or age>high", "near*hue>2"};
        String[] loses = {"age>2", "age>hue", "lost<3", "night%5=high%5", "age>high and lost<hue", "not age<4"};
        String[][] all = {glows, finds, loses};
        String[] words = {"glows", "finds", "loses"};
        for (int k = 0; k < 3; k++) {
            int kind = random.nextInt(10);
            rule = words[k];
            if (kind > 7) {
                String free = k == 0 ? sum(1 + random.nextInt(3)) : test(1 + random.nextInt(3));
                text.append(rule).append(' ').append(free).append(';');
            } else if (kind > 1) {
                text.append(rule).append(' ').append(all[k][random.nextInt(all[k].length)]).append(';');
            }
        }
    }

    private void things(StringBuilder text, boolean[][] wall) {
        int count = random.nextInt(8) == 0 ? 9 : random.nextInt(7);
        for (int t = 0; t < count; t++) {
            String name = name();
            text.append("lack ").append(name).append(" at ").append(cell(wall));
            text.append(" hue ").append(1 + random.nextInt(random.nextBoolean() ? 3 : 9));
            text.append(" high ").append(random.nextInt(10)).append(';');
            if (random.nextInt(3) == 0) {
                text.append("has ").append(name).append(';');
            }
        }
    }

    private void folk(StringBuilder text, boolean[][] wall) {
        int count = random.nextInt(8) == 0 ? 6 : random.nextInt(5);
        for (int f = 0; f < count; f++) {
            text.append("folk ").append(name()).append(" at ").append(cell(wall));
            text.append(" home ").append(cell(wall)).append(';');
        }
    }

    private String name() {
        StringBuilder name = new StringBuilder("x");
        for (int k = random.nextInt(5); k > 0; k--) {
            name.append((char) ('a' + random.nextInt(26)));
        }
        if (names.contains(name.toString())) {
            return name();
        }
        names.add(name.toString());
        return name.toString();
    }

    private String cell(boolean[][] wall) {
        int x = random.nextInt(wall.length);
        int y = random.nextInt(wall[0].length);
        return wall[x][y] ? cell(wall) : x + " " + y;
    }

    private String blank() {
        return random.nextInt(3) == 0 ? " " : "";
    }

    private String sum(int depth) {
        String text = product(depth);
        while (random.nextInt(3) == 0) {
            text += blank() + "+-".charAt(random.nextInt(2)) + blank() + product(depth);
        }
        return text;
    }

    private String product(int depth) {
        String text = part(depth);
        while (random.nextInt(4) == 0) {
            text += blank() + "*/%".charAt(random.nextInt(3)) + blank() + part(depth);
        }
        return text;
    }

    private String part(int depth) {
        String own = rule.equals("finds") ? "near" : "lost";
        switch (random.nextInt(depth > 0 ? 10 : 6)) {
            case 0:
                return "" + random.nextInt(random.nextInt(5) == 0 ? 10000 : 10);
            case 1:
                return "hue";
            case 2:
                return "high";
            case 3:
                return "age";
            case 4:
                return own;
            case 5:
                return "night";
            case 6:
                return "(" + sum(depth - 1) + ")";
            case 7:
                return "min(" + sum(depth - 1) + blank() + "," + sum(depth - 1) + ")";
            case 8:
                return "max (" + sum(depth - 1) + "," + blank() + sum(depth - 1) + ")";
            default:
                return "if(" + test(depth - 1) + "," + sum(depth - 1) + "," + sum(depth - 1) + ")";
        }
    }

    private String test(int depth) {
        String text = both(depth);
        while (random.nextInt(4) == 0) {
            text += " or " + both(depth);
        }
        return text;
    }

    private String both(int depth) {
        String text = fact(depth);
        while (random.nextInt(3) == 0) {
            text += " and " + fact(depth);
        }
        return text;
    }

    private String fact(int depth) {
        switch (random.nextInt(depth > 0 ? 8 : 5)) {
            case 0:
                return random.nextInt(4) == 0 ? "all" : "age>" + random.nextInt(9);
            case 5:
                return "not " + fact(depth - 1);
            case 6:
                return "[" + test(depth - 1) + "]";
            default:
                return sum(depth) + blank() + "<>=".charAt(random.nextInt(3)) + blank() + sum(depth);
        }
    }

    /** A whole text with a few places changed. */
    String broken() {
        String text = whole();
        for (int k = 1 + random.nextInt(2); k > 0; k--) {
            text = changed(text);
        }
        return text;
    }

    private String changed(String text) {
        int at = random.nextInt(text.length() + 1);
        int end = Math.min(text.length(), at + random.nextInt(4));
        String piece = PIECES[random.nextInt(PIECES.length)];
        switch (random.nextInt(6)) {
            case 0:
                return text.substring(0, at);
            case 1:
                return text.substring(0, at) + text.substring(end);
            case 2:
                return text.substring(0, at) + " " + piece + " " + text.substring(at);
            case 3:
                return text.substring(0, at) + piece + text.substring(at);
            case 4:
                return replacedWord(text, piece);
            default:
                return twice(text);
        }
    }

    private String replacedWord(String text, String piece) {
        String[] words = text.split(" ", -1);
        words[random.nextInt(words.length)] = piece;
        return String.join(" ", words);
    }

    /** A statement is told once more, somewhere behind itself. */
    private String twice(String text) {
        String[] all = text.split(";");
        String again = all[random.nextInt(all.length)];
        return text + again + ";".repeat(random.nextInt(2));
    }
}
