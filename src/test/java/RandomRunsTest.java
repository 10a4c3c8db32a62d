import java.lang.reflect.Method;
import java.nio.charset.StandardCharsets;
import java.util.ArrayList;
import java.util.List;
import java.util.Random;

/** Runs of calls by fixed seeds: the program answers each as the plain model does. */
public final class RandomRunsTest {
    private static final String[] CALLS = {"fault", "has", "has", "letter", "cell", "cell", "thing", "thing", "folk",
        "folk", "later", "later", "home", "missing", "losses", "worst", "cover", "send", "odds", "hues", "tells",
        "nights", "nights", "chance", "chance", "lose", "lose", "find", "find", "lead", "lead", "undo", "seed", "kept",
        "kept", "image", "octet", "status", "end"};
    private static final int CALLS_MOST = 512;
    private final Random random;
    private final TextMaker texts;
    private final MissingLamps lamps = new MissingLamps();
    private final PlainModel model = new PlainModel();
    private final List<String> told = new ArrayList<>();
    private int calls;
    private int wrong;

    private RandomRunsTest(long seed) {
        random = new Random(seed);
        texts = new TextMaker(random);
    }

    public static void main(String[] args) throws Exception {
        int first = args.length > 0 ? Integer.parseInt(args[0]) : 0;
        int count = args.length > 1 ? Integer.parseInt(args[1]) : 250;
        int wrong = 0;
        for (int seed = first; seed < first + count && wrong < 5; seed++) {
            RandomRunsTest run = new RandomRunsTest(seed);
            run.go(seed % 3 == 2);
            wrong += run.wrong;
            if (run.wrong > 0) {
                System.out.println("run " + seed + ":");
                run.told.forEach(System.out::println);
            }
        }
        System.exit(wrong == 0 ? 0 : 1);
    }

    private void go(boolean forFaults) throws Exception {
        for (int k = 0; k < (forFaults ? 60 : 4) && wrong == 0 && calls < CALLS_MOST; k++) {
            boolean whole = !forFaults && random.nextInt(8) > 0;
            text(whole ? texts.whole() : texts.broken());
            for (int n = forFaults ? 2 : 80; n > 0 && wrong == 0; n--) {
                step();
            }
        }
    }

    private void text(String text) throws Exception {
        told.add("text " + text.replace("\n", "\\n"));
        put(text.getBytes(StandardCharsets.ISO_8859_1));
        ask("quay");
        ask("fault", 0);
        ask("fault", 1);
    }

    private void put(byte[] all) throws Exception {
        ask("end", 0);
        for (int k = 0; k < all.length; k += 20) {
            ask("feed", Tape.word(all, k), Tape.word(all, k + 4), Tape.word(all, k + 8), Tape.word(all, k + 12),
                    Tape.word(all, k + 16));
        }
        ask("end", all.length);
    }

    private void step() throws Exception {
        int kind = random.nextInt(40);
        if (kind == 0) {
            meet();
        } else if (kind == 1) {
            on();
        } else {
            String name = CALLS[random.nextInt(CALLS.length)];
            int[] values = new int[method(MissingLamps.class, name).getParameterCount()];
            for (int k = 0; k < values.length; k++) {
                values[k] = value(name, k);
            }
            ask(name, values);
        }
    }

    private int value(String name, int k) {
        int kind = random.nextInt(40);
        if (kind == 0) {
            return random.nextInt();
        }
        if (kind == 1) {
            return -1 - random.nextInt(2);
        }
        return random.nextInt(1 + most(name, k));
    }

    /** The greatest number worth asking with: about one beyond the last that can be. */
    private int most(String name, int k) {
        int things = model.has(3);
        int folk = model.has(4);
        switch (name + k) {
            case "thing0":
            case "missing0":
            case "hues0":
            case "tells0":
            case "lose0":
            case "find0":
                return things;
            case "folk0":
            case "later0":
            case "home0":
            case "losses0":
            case "odds0":
            case "lead0":
                return folk;
            case "letter1":
                return Math.max(things, folk);
            case "cell0":
            case "lead1":
                return model.has(0);
            case "cell1":
            case "lead2":
                return model.has(1);
            case "send0":
                return 2 + folk;
            case "has0":
                return 13;
            case "thing1":
            case "letter2":
            case "status0":
                return 6;
            case "folk1":
                return 5;
            case "nights0":
            case "chance0":
                return random.nextInt(4) == 0 ? 41 : 3;
            case "later1":
            case "missing1":
                return random.nextInt(3) == 0 ? 41 : 8;
            case "losses1":
            case "worst0":
                return random.nextInt(3) == 0 ? 21 : 6;
            case "kept0":
                return model.has(9);
            case "octet0":
                return 34;
            case "seed0":
                return Integer.MAX_VALUE - 1;
            case "end0":
                return 21;
            case "cell2":
            case "tells1":
            case "kept1":
                return 3;
            default:
                return 2;
        }
    }

    /** Rows that are so in part: where some of the folk are, or would be with another hue. */
    private void meet() throws Exception {
        int rows = random.nextInt(20) == 0 ? random.nextInt(19) : 1 + random.nextInt(3);
        byte[] all = new byte[4 * rows + (random.nextInt(15) == 0 ? 1 : 0)];
        for (int k = 0; k < rows; k++) {
            int n = random.nextInt(random.nextInt(10) == 0 ? 33 : 6);
            int f = random.nextInt(Math.max(1, model.has(4)) + (random.nextInt(20) == 0 ? 1 : 0));
            all[4 * k] = (byte) n;
            all[4 * k + 1] = (byte) f;
            boolean so = random.nextInt(5) > 0;
            all[4 * k + 2] = (byte) (so ? model.later(f, n, 0) : random.nextInt(8));
            all[4 * k + 3] = (byte) (so ? model.later(f, n, 1) : random.nextInt(8));
        }
        put(all);
        ask("meet");
        for (int t = 0; t < model.has(3); t++) {
            ask("hues", t);
            ask("tells", t, random.nextInt(3));
        }
    }

    private void on() throws Exception {
        int size = ask("image");
        byte[] all = new byte[size];
        for (int k = 0; k < size; k++) {
            all[k] = (byte) ask("octet", k);
        }
        boolean late = random.nextInt(3) == 0;
        if (late) {
            all[0] = 3;
            all[1] = (byte) (190 + random.nextInt(43));
        }
        for (int k = random.nextInt(3); k > 0; k--) {
            all[2 + random.nextInt(size - 2)] = (byte) random.nextInt(random.nextInt(4) == 0 ? 256 : 7);
        }
        if (random.nextInt(5) > 0) {
            int c = 241;
            for (int k = 0; k < size - 1; k++) {
                c = (5 * c + (all[k] & 255)) % 251;
            }
            all[size - 1] = (byte) c;
        }
        put(all);
        ask("on");
    }

    /** What is due; beyond the last call of which something is promised the program is asked no more. */
    private int ask(String name, int... values) throws Exception {
        Integer[] boxed = new Integer[values.length];
        StringBuilder line = new StringBuilder(name);
        for (int k = 0; k < values.length; k++) {
            boxed[k] = values[k];
            line.append(' ').append(values[k]);
        }
        int due = number(method(PlainModel.class, name).invoke(model, (Object[]) boxed));
        calls++;
        if (calls > CALLS_MOST) {
            return due;
        }
        int got = number(method(MissingLamps.class, name).invoke(lamps, (Object[]) boxed));
        line.append(" -> ").append(got);
        if (got != due) {
            line.append(", due is ").append(due);
            wrong++;
        }
        told.add(line.toString());
        return due;
    }

    private static int number(Object answer) {
        return answer instanceof Boolean ? ((Boolean) answer ? 1 : 0) : (Integer) answer;
    }

    private static Method method(Class<?> type, String name) {
        for (Method method : type.getMethods()) {
            if (method.getName().equals(name)) {
                return method;
            }
        }
        throw new IllegalStateException(name);
    }
}
