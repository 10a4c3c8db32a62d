import java.io.IOException;
import java.lang.reflect.Method;
import java.lang.reflect.Modifier;
import java.nio.file.Files;
import java.nio.file.Path;
import java.util.ArrayList;
import java.util.List;
import java.util.regex.Matcher;
import java.util.regex.Pattern;

/** README.md shows each method, and its code compiles and answers as the page says. */
public final class ReadmeTest {
    // A call whose answer is told behind it, at the head of the remark.
    private static final Pattern ANSWERED = Pattern.compile("(lamps\\.\\w+\\(.*\\));\\s*// (-?\\d+|true|false)\\b.*");
    private static final String RUN = "ReadmeRun";

    public static void main(String[] args) throws Exception {
        Check check = new Check();
        String page = Files.readString(Path.of(System.getProperty("project", "."), "README.md"));
        List<String> code = javaLines(page);
        checkAllShown(check, code);
        if (compiles(source(code))) {
            Class.forName(RUN).getDeclaredMethod("run", Check.class).invoke(null, check);
        } else {
            check.due("the page's code compiles", false, true);
        }
        check.end();
    }

    private static List<String> javaLines(String page) {
        List<String> lines = new ArrayList<>();
        boolean inside = false;
        for (String line : page.split("\n")) {
            if (line.startsWith("```")) {
                inside = line.equals("```java");
            } else if (inside) {
                lines.add(line);
            }
        }
        return lines;
    }

    private static void checkAllShown(Check check, List<String> code) {
        StringBuilder shown = new StringBuilder();
        for (String line : code) {
            shown.append(line).append('\n');
        }
        for (Method method : MissingLamps.class.getDeclaredMethods()) {
            if (Modifier.isPublic(method.getModifiers())) {
                boolean isShown = shown.indexOf("lamps." + method.getName() + "(") >= 0;
                check.due("the page shows " + method.getName(), isShown, true);
            }
        }
    }

    /** A class of the page's code: its methods as they are, all else in the method run, each told answer checked. */
    private static String source(List<String> code) {
        StringBuilder methods = new StringBuilder();
        StringBuilder run = new StringBuilder();
        boolean inMethod = false;
        for (String line : code) {
            inMethod |= line.startsWith("static ");
            Matcher answered = ANSWERED.matcher(line);
            if (inMethod) {
                methods.append(line).append('\n');
            } else if (answered.matches()) {
                String call = answered.group(1);
                run.append("check.due(\"" + call + "\", " + call + ", " + answered.group(2) + ");\n");
            } else {
                run.append(line).append('\n');
            }
            inMethod &= !line.equals("}");
        }
        return "final class " + RUN + " {\n" + methods + "static void run(Check check) {\n" + run + "}\n}\n";
    }

    /** The class goes where this one is, so that it is found by its name. */
    private static boolean compiles(String source) throws IOException, InterruptedException {
        Path folder = Path.of(System.getProperty("java.class.path"));
        Path file = Files.writeString(folder.resolve(RUN + ".java"), source);
        return new ProcessBuilder("javac", "--release", "17", "-cp", folder.toString(), "-d", folder.toString(),
                file.toString()).inheritIO().start().waitFor() == 0;
    }
}
