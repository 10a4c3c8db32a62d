import java.util.ArrayList;
import java.util.Arrays;
import java.util.List;

/**
 * The document told once more, as plainly as can be and with none of the program's ways (no bits, no code, no reuse):
 * what RandomRunsTest holds the program against.
 */
public final class PlainModel {
    private static final int NONE = -1;
    private static final String OWN = " quay by pace gale wall lack at hue high has folk home glows finds loses "
            + "night age lost near if or and not all min max ";
    private static final int[] WAY_X = {0, 1, 0, -1};
    private static final int[] WAY_Y = {-1, 0, 1, 0};
    private static final int FAR = 1_000_000_000;

    private interface Sum {
        int of(View view);
    }

    private interface Test {
        boolean of(View view);
    }

    /** What a sum can ask for. */
    private static final class View {
        int night;
        int hue;
        int high;
        int age;
        int lost;
        int near;
    }

    private static final class Fault extends Exception {
        private static final long serialVersionUID = 1;
        final int kind;
        final int place;

        Fault(int kind, int place) {
            this.kind = kind;
            this.place = place;
        }
    }

    private static final class Thing {
        String name;
        int x;
        int y;
        int hue;
        int high;
        boolean missing = true;
    }

    private static final class Person {
        String name;
        int x;
        int y;
        int homeX;
        int homeY;
    }

    private static final class Plan {
        int statements;
        int columns;
        int rows;
        int pace = 3;
        int gale;
        boolean[][] wall = new boolean[0][0];
        final List<Thing> things = new ArrayList<>();
        final List<Person> folk = new ArrayList<>();
        Sum glows;
        Test finds;
        Test loses;

        boolean inside(int x, int y) {
            return x >= 0 && x < columns && y >= 0 && y < rows;
        }

        boolean free(int x, int y) {
            return inside(x, y) && !wall[x][y];
        }
    }

    private static final class Now {
        int night;
        boolean[] missing;
        int[] age;
        int[] x;
        int[] y;
        int[] hue;
        List<int[]> kept = new ArrayList<>();

        Now(Plan plan) {
            missing = new boolean[plan.things.size()];
            age = new int[missing.length];
            hue = new int[missing.length];
            for (int t = 0; t < missing.length; t++) {
                missing[t] = plan.things.get(t).missing;
                hue[t] = plan.things.get(t).hue;
            }
            x = new int[plan.folk.size()];
            y = new int[x.length];
            for (int f = 0; f < x.length; f++) {
                x[f] = plan.folk.get(f).x;
                y[f] = plan.folk.get(f).y;
            }
        }

        Now(Now other) {
            night = other.night;
            missing = other.missing.clone();
            age = other.age.clone();
            x = other.x.clone();
            y = other.y.clone();
            hue = other.hue.clone();
            kept = new ArrayList<>(other.kept);
        }

        int lost() {
            int count = 0;
            for (boolean one : missing) {
                count += one ? 1 : 0;
            }
            return count;
        }
    }

    private byte[] tape = new byte[0];
    private Plan plan = new Plan();
    private Now now = new Now(plan);
    private final List<Now> acts = new ArrayList<>();
    private List<int[]> met = new ArrayList<>();
    private int[] image = new int[0];
    private final int[] refused = new int[6];
    private int faultKind;
    private int faultPlace = NONE;
    private long seed = 1;

    // ---- the tape and the text

    public int feed(int a, int b, int c, int d, int e) {
        if (tape.length > 1580) {
            refused[0]++;
            return NONE;
        }
        int size = tape.length;
        tape = Arrays.copyOf(tape, size + 20);
        int[] words = {a, b, c, d, e};
        for (int k = 0; k < 20; k++) {
            tape[size + k] = (byte) (words[k / 4] >> (24 - 8 * (k % 4)));
        }
        return tape.length;
    }

    public boolean end(int n) {
        if (n < 0 || n > tape.length) {
            refused[0]++;
            return false;
        }
        tape = Arrays.copyOf(tape, n);
        return true;
    }

    public int quay() {
        StringBuilder text = new StringBuilder();
        for (byte one : tape) {
            text.append((char) (one & 255));
        }
        tape = new byte[0];
        try {
            plan = new Parser(text.toString()).plan();
            faultKind = 0;
            faultPlace = NONE;
            now = new Now(plan);
            acts.clear();
            met = new ArrayList<>();
            return plan.statements;
        } catch (Fault fault) {
            faultKind = fault.kind;
            faultPlace = fault.place;
            refused[1]++;
            return NONE;
        }
    }

    private static final class Parser {
        private final String text;
        private int at;
        private final Plan plan = new Plan();
        private String rule;

        Parser(String text) {
            this.text = text;
        }

        Plan plan() throws Fault {
            word("quay");
            plan.columns = number(3, 7);
            word("by");
            plan.rows = number(3, 7);
            plan.wall = new boolean[plan.columns][plan.rows];
            sign(';');
            plan.statements = 1;
            while (!atEnd()) {
                if (plan.statements == 80) {
                    throw new Fault(6, at);
                }
                statement();
                sign(';');
                plan.statements++;
            }
            return plan;
        }

        private boolean atEnd() {
            while (at < text.length() && (text.charAt(at) == ' ' || text.charAt(at) == '\n')) {
                at++;
            }
            return at == text.length();
        }

        /** The word, number or sign from here on, or "" at the end; a fault if it is too long or stands too close. */
        private String peek() throws Fault {
            if (atEnd()) {
                return "";
            }
            String letters = run('a', 'z');
            String digits = run('0', '9');
            if (letters.length() > 6) {
                throw new Fault(1, at + 6);
            }
            if (digits.length() > 4) {
                throw new Fault(1, at + 4);
            }
            if (letters.isEmpty() && digits.isEmpty()) {
                return text.substring(at, at + 1);
            }
            if (at > 0 && Character.isLetterOrDigit(text.charAt(at - 1))) {
                throw new Fault(1, at);
            }
            return letters + digits;
        }

        private String run(char from, char to) {
            int end = at;
            while (end < text.length() && text.charAt(end) >= from && text.charAt(end) <= to) {
                end++;
            }
            return text.substring(at, end);
        }

        private boolean next(String due) throws Fault {
            return peek().equals(due);
        }

        private void word(String due) throws Fault {
            if (!next(due)) {
                throw new Fault(1, at);
            }
            at += due.length();
        }

        private void sign(char due) throws Fault {
            word(String.valueOf(due));
        }

        private int number(int least, int most) throws Fault {
            String digits = peek();
            if (digits.isEmpty() || !Character.isDigit(digits.charAt(0))) {
                throw new Fault(1, at);
            }
            int value = Integer.parseInt(digits);
            if (value < least || value > most) {
                throw new Fault(4, at);
            }
            at += digits.length();
            return value;
        }

        private String name() throws Fault {
            String name = peek();
            if (name.isEmpty() || name.charAt(0) < 'a' || name.charAt(0) > 'z' || OWN.contains(" " + name + " ")) {
                throw new Fault(1, at);
            }
            return name;
        }

        private String newName() throws Fault {
            String name = name();
            for (Thing thing : plan.things) {
                if (thing.name.equals(name)) {
                    throw new Fault(2, at);
                }
            }
            for (Person person : plan.folk) {
                if (person.name.equals(name)) {
                    throw new Fault(2, at);
                }
            }
            at += name.length();
            return name;
        }

        private int[] cell(boolean forWall) throws Fault {
            int x = number(0, plan.columns - 1);
            int y = number(0, plan.rows - 1);
            boolean taken = plan.wall[x][y];
            for (Thing thing : plan.things) {
                taken |= forWall && thing.x == x && thing.y == y;
            }
            for (Person person : plan.folk) {
                taken |= forWall && person.x == x && person.y == y;
                taken |= forWall && person.homeX == x && person.homeY == y;
            }
            if (taken) {
                int digit = at;
                while (Character.isDigit(text.charAt(digit - 1))) {
                    digit--;
                }
                throw new Fault(4, digit);
            }
            return new int[] {x, y};
        }

        private void statement() throws Fault {
            String first = peek();
            int start = at;
            at += first.length();
            if (first.equals("pace")) {
                plan.pace = number(1, 9);
            } else if (first.equals("gale")) {
                plan.gale = number(0, 100);
            } else if (first.equals("wall")) {
                int[] cell = cell(true);
                plan.wall[cell[0]][cell[1]] = true;
            } else if (first.equals("lack")) {
                lack(start);
            } else if (first.equals("has")) {
                has();
            } else if (first.equals("folk")) {
                folk(start);
            } else if (first.equals("glows") || first.equals("finds") || first.equals("loses")) {
                rule(first, start);
            } else {
                throw new Fault(1, start);
            }
        }

        private void lack(int start) throws Fault {
            if (plan.things.size() == 9) {
                throw new Fault(6, start);
            }
            Thing thing = new Thing();
            thing.name = newName();
            word("at");
            int[] cell = cell(false);
            thing.x = cell[0];
            thing.y = cell[1];
            word("hue");
            thing.hue = number(1, 9);
            word("high");
            thing.high = number(0, 9);
            plan.things.add(thing);
        }

        private void has() throws Fault {
            String name = name();
            for (Thing thing : plan.things) {
                if (thing.name.equals(name) && thing.missing) {
                    thing.missing = false;
                    at += name.length();
                    return;
                }
            }
            throw new Fault(3, at);
        }

        private void folk(int start) throws Fault {
            if (plan.folk.size() == 6) {
                throw new Fault(6, start);
            }
            Person person = new Person();
            person.name = newName();
            word("at");
            int[] cell = cell(false);
            person.x = cell[0];
            person.y = cell[1];
            word("home");
            cell = cell(false);
            person.homeX = cell[0];
            person.homeY = cell[1];
            plan.folk.add(person);
        }

        private void rule(String first, int start) throws Fault {
            Object there = first.equals("glows") ? plan.glows : first.equals("finds") ? plan.finds : plan.loses;
            if (there != null) {
                throw new Fault(6, start);
            }
            rule = first;
            if (first.equals("glows")) {
                plan.glows = sum(0);
            } else if (first.equals("finds")) {
                plan.finds = test(0);
            } else {
                plan.loses = test(0);
            }
        }

        private int open(String what, int open) throws Fault {
            if (!next(what)) {
                throw new Fault(1, at);
            }
            if (open == 7) {
                throw new Fault(5, at);
            }
            at += what.length();
            return open + 1;
        }

        private Test test(int open) throws Fault {
            Test all = both(open);
            while (next("or")) {
                at += 2;
                Test left = all;
                Test right = both(open);
                all = v -> left.of(v) || right.of(v);
            }
            return all;
        }

        private Test both(int open) throws Fault {
            Test all = fact(open);
            while (next("and")) {
                at += 3;
                Test left = all;
                Test right = fact(open);
                all = v -> left.of(v) && right.of(v);
            }
            return all;
        }

        private Test fact(int open) throws Fault {
            if (next("not")) {
                Test one = fact(open("not", open));
                return v -> !one.of(v);
            }
            if (next("[")) {
                Test one = test(open("[", open));
                sign(']');
                return one;
            }
            if (next("all")) {
                at += 3;
                return v -> true;
            }
            Sum left = sum(open);
            String sign = peek();
            if (!sign.equals("<") && !sign.equals(">") && !sign.equals("=")) {
                throw new Fault(1, at);
            }
            at++;
            Sum right = sum(open);
            char c = sign.charAt(0);
            return v -> c == '<' ? left.of(v) < right.of(v) : c == '>' ? left.of(v) > right.of(v) : left.of(v) == right.of(v);
        }

        private Sum sum(int open) throws Fault {
            Sum all = product(open);
            while (next("+") || next("-")) {
                int factor = next("+") ? 1 : -1;
                at++;
                Sum left = all;
                Sum right = product(open);
                all = v -> bound(left.of(v) + factor * right.of(v));
            }
            return all;
        }

        private Sum product(int open) throws Fault {
            Sum all = part(open);
            while (next("*") || next("/") || next("%")) {
                char c = peek().charAt(0);
                at++;
                Sum left = all;
                Sum right = part(open);
                all = v -> bound(factors(c, left.of(v), right.of(v)));
            }
            return all;
        }

        private static long factors(char c, long a, long b) {
            if (c == '*') {
                return a * b;
            }
            if (b == 0) {
                return 0;
            }
            long whole = a / b;
            while (b > 0 ? whole * b > a : whole * b < a) {
                whole--;
            }
            return c == '/' ? whole : a - b * whole;
        }

        private static int bound(long result) {
            return (int) Math.min(1_000_000, Math.max(-1_000_000, result));
        }

        private Sum part(int open) throws Fault {
            String one = peek();
            if (one.isEmpty()) {
                throw new Fault(1, at);
            }
            if (Character.isDigit(one.charAt(0))) {
                int value = number(0, 9999);
                return v -> value;
            }
            if (one.equals("(")) {
                Sum inside = sum(open("(", open));
                sign(')');
                return inside;
            }
            int start = at;
            at += one.length();
            if (one.equals("min") || one.equals("max")) {
                int inner = open("(", open);
                Sum a = sum(inner);
                sign(',');
                Sum b = sum(inner);
                sign(')');
                return one.equals("min") ? v -> Math.min(a.of(v), b.of(v)) : v -> Math.max(a.of(v), b.of(v));
            }
            if (one.equals("if")) {
                int inner = open("(", open);
                Test test = test(inner);
                sign(',');
                Sum a = sum(inner);
                sign(',');
                Sum b = sum(inner);
                sign(')');
                return v -> test.of(v) ? a.of(v) : b.of(v);
            }
            Sum value = value(one);
            if (value == null) {
                throw new Fault(1, start);
            }
            return value;
        }

        private Sum value(String word) {
            switch (word) {
                case "night":
                    return v -> v.night;
                case "hue":
                    return v -> v.hue;
                case "high":
                    return v -> v.high;
                case "age":
                    return v -> v.age;
                case "lost":
                    return rule.equals("finds") ? null : v -> v.lost;
                case "near":
                    return rule.equals("finds") ? v -> v.near : null;
                default:
                    return null;
            }
        }
    }

    // ---- nights

    private View view(Now state, int t) {
        View view = new View();
        view.night = state.night;
        view.hue = state.hue[t];
        view.high = plan.things.get(t).high;
        view.age = state.age[t];
        view.lost = state.lost();
        for (int f = 0; f < state.x.length; f++) {
            view.near += state.x[f] == plan.things.get(t).x && state.y[f] == plan.things.get(t).y ? 1 : 0;
        }
        return view;
    }

    private int glow(Now state, int t) {
        int sum = plan.glows == null ? state.hue[t] : plan.glows.of(view(state, t));
        return Math.min(9, Math.max(0, sum));
    }

    private boolean lights(Now state, int t, int x, int y) {
        Thing thing = plan.things.get(t);
        return state.missing[t] && plan.free(x, y) && Math.abs(thing.x - x) + Math.abs(thing.y - y) <= glow(state, t);
    }

    private boolean[][] lit(Now state, int dark) {
        boolean[][] lit = new boolean[plan.columns][plan.rows];
        for (int x = 0; x < plan.columns; x++) {
            for (int y = 0; y < plan.rows; y++) {
                for (int t = 0; t < plan.things.size(); t++) {
                    lit[x][y] |= t != dark && lights(state, t, x, y);
                }
            }
        }
        return lit;
    }

    /** For each cell the fewest steps to an end, all into open cells. */
    private int[][] roads(boolean[][] open, int endX, int endY) {
        int[][] steps = new int[plan.columns][plan.rows];
        for (int[] line : steps) {
            Arrays.fill(line, FAR);
        }
        steps[endX][endY] = 0;
        for (boolean more = true; more;) {
            more = false;
            for (int x = 0; x < plan.columns; x++) {
                for (int y = 0; y < plan.rows; y++) {
                    for (int way = 0; way < 4; way++) {
                        int toX = x + WAY_X[way];
                        int toY = y + WAY_Y[way];
                        if (plan.inside(toX, toY) && open[toX][toY] && steps[toX][toY] + 1 < steps[x][y]) {
                            steps[x][y] = steps[toX][toY] + 1;
                            more = true;
                        }
                    }
                }
            }
        }
        return steps;
    }

    private void walk(Now state, int f, boolean[][] lit) {
        int[][] steps = roads(lit, plan.folk.get(f).homeX, plan.folk.get(f).homeY);
        for (int k = 0; k < plan.pace; k++) {
            int left = steps[state.x[f]][state.y[f]];
            if (left == 0 || left == FAR) {
                return;
            }
            for (int way = 0; way < 4; way++) {
                int toX = state.x[f] + WAY_X[way];
                int toY = state.y[f] + WAY_Y[way];
                if (plan.inside(toX, toY) && lit[toX][toY] && steps[toX][toY] == left - 1) {
                    state.x[f] = toX;
                    state.y[f] = toY;
                    break;
                }
            }
        }
    }

    /** One night; how many were found in it. */
    private int pass(Now state, int dark) {
        boolean[][] lit = lit(state, dark);
        for (int f = 0; f < state.x.length; f++) {
            walk(state, f, lit);
        }
        boolean[] turns = new boolean[state.missing.length];
        int found = 0;
        for (int t = 0; t < turns.length; t++) {
            View view = view(state, t);
            if (state.missing[t]) {
                turns[t] = plan.finds == null ? view.near > 0 : plan.finds.of(view);
                found += turns[t] ? 1 : 0;
            } else {
                turns[t] = plan.loses != null && plan.loses.of(view);
            }
        }
        for (int t = 0; t < turns.length; t++) {
            if (turns[t]) {
                state.kept.add(new int[] {state.night, t, state.missing[t] ? 1 : 0});
                state.missing[t] = !state.missing[t];
                state.age[t] = 0;
            } else {
                state.age[t] = Math.min(99, state.age[t] + 1);
            }
        }
        state.night = Math.min(999, state.night + 1);
        return found;
    }

    private Now behind(Now from, int n) {
        Now state = new Now(from);
        for (int k = 0; k < n; k++) {
            pass(state, NONE);
        }
        return state;
    }

    private boolean atHome(Now state, int f) {
        return state.x[f] == plan.folk.get(f).homeX && state.y[f] == plan.folk.get(f).homeY;
    }

    private int countAtHome(Now state) {
        int count = 0;
        for (int f = 0; f < state.x.length; f++) {
            count += atHome(state, f) ? 1 : 0;
        }
        return count;
    }

    private boolean isThing(int t) {
        return t >= 0 && t < plan.things.size();
    }

    private boolean isFolk(int f) {
        return f >= 0 && f < plan.folk.size();
    }

    private boolean comes(long n, int least, int most) {
        return plan.columns > 0 && n >= least && n <= most && now.night + n <= 999;
    }

    // ---- what is asked

    public int fault(int what) {
        return what == 0 ? faultKind : what == 1 ? faultPlace : NONE;
    }

    public int has(int what) {
        int walls = 0;
        int litCells = 0;
        boolean[][] lit = lit(now, NONE);
        for (int x = 0; x < plan.columns; x++) {
            for (int y = 0; y < plan.rows; y++) {
                walls += plan.wall[x][y] ? 1 : 0;
                litCells += lit[x][y] ? 1 : 0;
            }
        }
        int[] all = {plan.columns, plan.rows, walls, plan.things.size(), plan.folk.size(), now.night, now.lost(),
            litCells, countAtHome(now), Math.min(40, now.kept.size()), met.size(), acts.size(), (int) seed};
        return what >= 0 && what < all.length ? all[what] : NONE;
    }

    public int letter(int kind, int which, int k) {
        if (k < 0 || k > 5 || (kind == 0 ? !isThing(which) : kind != 1 || !isFolk(which))) {
            return NONE;
        }
        String name = kind == 0 ? plan.things.get(which).name : plan.folk.get(which).name;
        return k < name.length() ? name.charAt(k) - 'a' + 1 : 0;
    }

    public int cell(int column, int row, int what) {
        if (!plan.inside(column, row) || what < 0 || what > 2) {
            return NONE;
        }
        int lanterns = 0;
        for (int t = 0; t < plan.things.size(); t++) {
            lanterns += lights(now, t, column, row) ? 1 : 0;
        }
        return what == 0 ? (plan.wall[column][row] ? 1 : 0) : what == 1 ? Math.min(1, lanterns) : lanterns;
    }

    public int thing(int thing, int what) {
        if (!isThing(thing) || what < 0 || what > 6) {
            return NONE;
        }
        Thing one = plan.things.get(thing);
        int[] all = {one.x, one.y, one.hue, one.high, now.missing[thing] ? 1 : 0, now.age[thing],
            now.missing[thing] ? glow(now, thing) : NONE};
        return all[what];
    }

    public int folk(int folk, int what) {
        if (!isFolk(folk) || what < 0 || what > 4) {
            return NONE;
        }
        Person one = plan.folk.get(folk);
        int steps = roads(lit(now, NONE), one.homeX, one.homeY)[now.x[folk]][now.y[folk]];
        int[] all = {now.x[folk], now.y[folk], one.homeX, one.homeY, steps == FAR ? NONE : steps};
        return all[what];
    }

    public int later(int folk, int n, int what) {
        if (!isFolk(folk) || !comes(n, 0, 40) || what < 0 || what > 1) {
            return NONE;
        }
        Now state = behind(now, n);
        return what == 0 ? state.x[folk] : state.y[folk];
    }

    public int home(int folk) {
        Now state = new Now(now);
        for (int n = 0; isFolk(folk) && comes(n, 0, 40); n++) {
            if (atHome(state, folk)) {
                return n;
            }
            pass(state, NONE);
        }
        return NONE;
    }

    public int missing(int thing, int n) {
        if (!isThing(thing) || !comes(n, 0, 40)) {
            return NONE;
        }
        return behind(now, n).missing[thing] ? 1 : 0;
    }

    public int losses(int folk, int n) {
        int best = NONE;
        if (!isFolk(folk) || !comes(n, 0, 20)) {
            return NONE;
        }
        for (int set = 0; set < 1 << plan.things.size(); set++) {
            Now state = new Now(now);
            boolean can = best == NONE || Integer.bitCount(set) < Integer.bitCount(best);
            for (int t = 0; t < plan.things.size(); t++) {
                if ((set >> t) % 2 == 1) {
                    can &= !now.missing[t];
                    state.missing[t] = true;
                    state.age[t] = 0;
                }
            }
            if (can && atHome(behind(state, n), folk)) {
                best = set;
            }
        }
        return best;
    }

    public int worst(int n, int what) {
        int worst = NONE;
        int fewest = NONE;
        if (!comes(n, 1, 20) || what < 0 || what > 1) {
            return NONE;
        }
        for (int t = plan.things.size() - 1; t >= 0; t--) {
            if (now.missing[t]) {
                Now state = new Now(now);
                state.missing[t] = false;
                state.age[t] = 0;
                int count = countAtHome(behind(state, n));
                if (worst == NONE || count <= fewest) {
                    worst = t;
                    fewest = count;
                }
            }
        }
        return what == 0 ? worst : fewest;
    }

    public int cover() {
        int best = NONE;
        boolean[][] all = lit(now, NONE);
        for (int set = 0; set < 1 << plan.things.size(); set++) {
            Now state = new Now(now);
            boolean[][] lit = new boolean[plan.columns][plan.rows];
            boolean can = best == NONE || Integer.bitCount(set) < Integer.bitCount(best);
            for (int t = 0; t < plan.things.size(); t++) {
                can &= (set >> t) % 2 == 0 || now.missing[t];
                for (int x = 0; x < plan.columns; x++) {
                    for (int y = 0; y < plan.rows; y++) {
                        lit[x][y] |= (set >> t) % 2 == 1 && lights(state, t, x, y);
                    }
                }
            }
            if (can && Arrays.deepEquals(lit, all)) {
                best = set;
            }
        }
        return best;
    }

    public int send(int what) {
        int count = plan.folk.size();
        if (what < 0 || what >= 2 + count) {
            return NONE;
        }
        boolean[][] open = new boolean[plan.columns][plan.rows];
        for (int x = 0; x < plan.columns; x++) {
            for (int y = 0; y < plan.rows; y++) {
                open[x][y] = !plan.wall[x][y];
            }
        }
        int[][] steps = new int[count][plan.things.size()];
        for (int f = 0; f < count; f++) {
            for (int t = 0; t < plan.things.size(); t++) {
                Thing thing = plan.things.get(t);
                steps[f][t] = now.missing[t] ? roads(open, thing.x, thing.y)[now.x[f]][now.y[f]] : FAR;
            }
        }
        int[] best = {0, 0};
        int[] row = new int[count];
        Arrays.fill(row, NONE);
        int[] bestRow = row.clone();
        allRows(steps, 0, row, best, bestRow);
        return what < 2 ? best[what] : bestRow[what - 2];
    }

    /** Every row there is, in order; a later one counts only if it is better. */
    private void allRows(int[][] steps, int f, int[] row, int[] best, int[] bestRow) {
        if (f == row.length) {
            int sent = 0;
            int far = 0;
            for (int k = 0; k < f; k++) {
                sent += row[k] == NONE ? 0 : 1;
                far += row[k] == NONE ? 0 : steps[k][row[k]];
            }
            if (sent > best[0] || sent == best[0] && far < best[1]) {
                best[0] = sent;
                best[1] = far;
                System.arraycopy(row, 0, bestRow, 0, f);
            }
            return;
        }
        for (int t = NONE; t < plan.things.size(); t++) {
            boolean can = t == NONE || steps[f][t] != FAR;
            for (int k = 0; k < f; k++) {
                can &= t == NONE || row[k] != t;
            }
            if (can) {
                row[f] = t;
                allRows(steps, f + 1, row, best, bestRow);
            }
        }
        row[f] = NONE;
    }

    public int odds(int folk) {
        if (!comes(1, 1, 1) || plan.things.isEmpty() || folk != NONE && !isFolk(folk)) {
            return NONE;
        }
        int rows = 0;
        for (int number = 0; number < 100; number++) {
            for (int t = 0; t < plan.things.size(); t++) {
                if (folk == NONE) {
                    rows++;
                } else {
                    Now state = new Now(now);
                    pass(state, number < plan.gale ? t : NONE);
                    rows += atHome(state, folk) ? 1 : 0;
                }
            }
        }
        return rows;
    }

    public int meet() {
        byte[] all = tape;
        tape = new byte[0];
        boolean can = all.length > 0 && all.length <= 64 && all.length % 4 == 0;
        List<int[]> rows = new ArrayList<>();
        for (int k = 0; can && k < all.length; k += 4) {
            int[] row = {all[k] & 255, all[k + 1] & 255, all[k + 2] & 255, all[k + 3] & 255};
            can = row[0] <= 30 && isFolk(row[1]) && plan.inside(row[2], row[3]);
            rows.add(row);
        }
        if (!can) {
            refused[5]++;
            return NONE;
        }
        met = rows;
        return rows.size();
    }

    public int hues(int thing) {
        if (!isThing(thing)) {
            return NONE;
        }
        int bits = 0;
        for (int hue = 1; hue <= 9; hue++) {
            Now state = new Now(now);
            state.hue[thing] = hue;
            boolean so = true;
            for (int[] row : met) {
                if (now.night + row[0] > 999) {
                    so = false;
                } else {
                    Now then = behind(state, row[0]);
                    so &= then.x[row[1]] == row[2] && then.y[row[1]] == row[3];
                }
            }
            bits += so ? 1 << hue - 1 : 0;
        }
        return bits;
    }

    public int tells(int thing, int what) {
        int left = hues(thing);
        List<Now> states = new ArrayList<>();
        for (int hue = 1; hue <= 9; hue++) {
            if (left > 0 && (left >> hue - 1) % 2 == 1) {
                Now state = new Now(now);
                state.hue[thing] = hue;
                states.add(state);
            }
        }
        int[] best = {NONE, NONE, NONE};
        for (int n = 1; !states.isEmpty() && comes(n, 1, 30); n++) {
            for (Now state : states) {
                pass(state, NONE);
            }
            for (int f = 0; f < plan.folk.size(); f++) {
                int[][] counts = new int[plan.columns][plan.rows];
                int most = 0;
                for (Now state : states) {
                    counts[state.x[f]][state.y[f]]++;
                    most = Math.max(most, counts[state.x[f]][state.y[f]]);
                }
                if (best[2] == NONE || most < best[2]) {
                    best = new int[] {n, f, most};
                }
            }
        }
        return what >= 0 && what <= 2 ? best[what] : NONE;
    }

    // ---- acts

    private void act() {
        acts.add(new Now(now));
        if (acts.size() > 20) {
            acts.remove(0);
        }
    }

    private int draw(int m) {
        seed = (1103515245L * seed + 12345) % 2147483648L;
        return (int) (seed / 64 % m);
    }

    public int nights(int n) {
        if (!comes(n, 1, 40)) {
            refused[2]++;
            return NONE;
        }
        act();
        int found = 0;
        for (int k = 0; k < n; k++) {
            found += pass(now, NONE);
        }
        return found;
    }

    public int chance(int n) {
        if (!comes(n, 1, 40)) {
            refused[2]++;
            return NONE;
        }
        act();
        int gales = 0;
        for (int k = 0; k < n; k++) {
            int dark = NONE;
            if (draw(100) < plan.gale && !plan.things.isEmpty()) {
                dark = draw(plan.things.size());
                gales++;
            }
            pass(now, dark);
        }
        return gales;
    }

    private boolean turn(int thing, boolean missing) {
        if (!isThing(thing) || now.missing[thing] == missing) {
            refused[3]++;
            return false;
        }
        act();
        now.missing[thing] = missing;
        now.age[thing] = 0;
        now.kept.add(new int[] {now.night, thing, missing ? 0 : 1});
        return true;
    }

    public boolean lose(int thing) {
        return turn(thing, true);
    }

    public boolean find(int thing) {
        return turn(thing, false);
    }

    public boolean lead(int folk, int column, int row) {
        if (!isFolk(folk) || !plan.free(column, row) || now.x[folk] == column && now.y[folk] == row) {
            refused[3]++;
            return false;
        }
        act();
        now.x[folk] = column;
        now.y[folk] = row;
        return true;
    }

    public boolean undo() {
        if (acts.isEmpty()) {
            refused[4]++;
            return false;
        }
        now = acts.remove(acts.size() - 1);
        return true;
    }

    public boolean seed(int value) {
        if (value < 0) {
            refused[5]++;
            return false;
        }
        seed = value;
        return true;
    }

    public int kept(int k, int what) {
        int told = Math.min(40, now.kept.size());
        if (k < 0 || k >= told || what < 0 || what > 2) {
            return NONE;
        }
        return now.kept.get(now.kept.size() - told + k)[what];
    }

    // ---- images

    private static int check(List<Integer> bytes) {
        int c = 241;
        for (int one : bytes) {
            c = (5 * c + one) % 251;
        }
        return c;
    }

    public int image() {
        List<Integer> all = new ArrayList<>(List.of(now.night / 256, now.night % 256));
        for (int t = 0; t < now.missing.length; t++) {
            all.add(now.missing[t] ? 1 : 0);
            all.add(now.age[t]);
        }
        for (int f = 0; f < now.x.length; f++) {
            all.add(now.x[f]);
            all.add(now.y[f]);
        }
        all.add(check(all));
        image = new int[all.size()];
        for (int k = 0; k < image.length; k++) {
            image[k] = all.get(k);
        }
        return image.length;
    }

    public int octet(int k) {
        return k >= 0 && k < image.length ? image[k] : NONE;
    }

    public boolean on() {
        List<Integer> all = new ArrayList<>();
        for (byte one : tape) {
            all.add(one & 255);
        }
        tape = new byte[0];
        Now next = new Now(plan);
        if (plan.columns == 0 || !takes(next, all)) {
            refused[5]++;
            return false;
        }
        now = next;
        acts.clear();
        return true;
    }

    private boolean takes(Now next, List<Integer> all) {
        if (all.size() != 3 + 2 * next.missing.length + 2 * next.x.length) {
            return false;
        }
        int last = all.remove(all.size() - 1);
        boolean can = last == check(all);
        next.night = 256 * all.get(0) + all.get(1);
        can &= next.night < 1000;
        int at = 2;
        for (int t = 0; t < next.missing.length; t++, at += 2) {
            can &= all.get(at) < 2 && all.get(at + 1) < 100;
            next.missing[t] = all.get(at) == 1;
            next.age[t] = all.get(at + 1);
        }
        for (int f = 0; f < next.x.length; f++, at += 2) {
            next.x[f] = all.get(at);
            next.y[f] = all.get(at + 1);
            can &= plan.free(next.x[f], next.y[f]);
        }
        return can;
    }

    public int status(int what) {
        return what >= 0 && what < 6 ? refused[what] : NONE;
    }
}
