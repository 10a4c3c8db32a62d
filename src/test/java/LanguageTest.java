import java.io.IOException;
import java.lang.reflect.Executable;
import java.lang.reflect.Field;
import java.lang.reflect.Modifier;
import java.nio.charset.StandardCharsets;
import java.nio.file.Files;
import java.nio.file.Path;
import java.util.ArrayList;
import java.util.HashMap;
import java.util.List;
import java.util.Map;
import java.util.Set;
import java.util.TreeMap;
import java.util.TreeSet;
import java.util.regex.Matcher;
import java.util.regex.Pattern;

/** The program keeps to LANGUAGE.md, as far as a tool can see it; FaceTest looks at rule 1. */
public final class LanguageTest {
    private static final Pattern FORBIDDEN = Pattern.compile(
            "\\b(throw|throws|try|catch|finally|synchronized|assert|import|package|native|volatile)\\b|->|::|@|\\bstatic \\{");
    private static final Pattern METHOD = Pattern.compile("^ {4}( {4})?[\\w\\[\\] ]+\\([^;]*\\) \\{$");
    private static final Set<String> LIBRARY = Set.of(
            "java/lang/Object.<init>", "java/lang/String.length", "java/lang/String.charAt", "java/lang/System.arraycopy",
            "java/lang/Math.max", "java/lang/Math.min", "java/lang/Math.abs", "java/lang/Math.floorDiv",
            "java/lang/Math.floorMod", "java/lang/Integer.bitCount", "java/lang/Long.bitCount");
    private static final int LINES_MOST = 60;
    private static final int PARAMETERS_MOST = 7;
    private static final int CLASSES_MOST = 12;
    private static final int FIELDS_MOST = 20;
    private static final int DEPTH_MOST = 8;

    private static final Check CHECK = new Check();

    public static void main(String[] args) throws IOException {
        Path file = Path.of(System.getProperty("project", "."), "src/main/java/MissingLamps.java");
        String source = Files.readString(file, StandardCharsets.ISO_8859_1);
        checkWords(source);
        checkLengths(source.split("\n"));
        List<Class<?>> classes = new ArrayList<>(List.of(MissingLamps.class.getDeclaredClasses()));
        classes.add(MissingLamps.class);
        CHECK.of("rule 11: some twelve classes");
        CHECK.due("classes", classes.size() <= CLASSES_MOST, true);
        Map<String, Set<String>> calls = new TreeMap<>();
        for (Class<?> one : classes) {
            checkMembers(one);
            ClassFile compiled = new ClassFile(one);
            checkLibrary(one, compiled);
            calls.putAll(compiled.calls);
        }
        checkDepth(calls);
        CHECK.end();
    }

    private static void checkWords(String source) {
        CHECK.of("rule 4: constants whose signs are 1 to 127");
        for (int k = 0; k < source.length(); k++) {
            CHECK.due("sign " + k + " is plain", source.charAt(k) < 127 && source.charAt(k) > 0, true);
        }
        CHECK.of("rules 2, 5, 6: words that the program does without");
        Matcher word = FORBIDDEN.matcher(source.replaceAll("(?s)/\\*.*?\\*/|//[^\n]*|\"[^\"\n]*\"", ""));
        while (word.find()) {
            CHECK.due("uses of " + word.group(), 1, 0);
        }
    }

    private static void checkLengths(String[] lines) {
        CHECK.of("rule 11: methods stay short");
        int methods = 0;
        for (int k = 0; k < lines.length; k++) {
            if (METHOD.matcher(lines[k]).matches()) {
                String end = lines[k].replaceAll("\\S.*", "") + "}";
                int last = k;
                while (last < lines.length && !lines[last].equals(end)) {
                    last++;
                }
                CHECK.due((last - k + 1) + " lines of " + lines[k].trim(), last - k + 1 <= LINES_MOST, true);
                methods++;
            }
        }
        CHECK.due("methods are found", methods > 32, true);
    }

    private static void checkMembers(Class<?> type) {
        int fields = 0;
        for (Field field : type.getDeclaredFields()) {
            boolean isStatic = Modifier.isStatic(field.getModifiers());
            fields += isStatic ? 0 : 1;
            CHECK.of("rule 3: types");
            CHECK.due("type of " + field, isAllowed(field.getType()), true);
            CHECK.of("rule 5: static fields are final");
            boolean isConstant = Modifier.isFinal(field.getModifiers()) && isOfConstants(field.getType());
            CHECK.due("constant " + field, !isStatic || isConstant, true);
        }
        CHECK.of("rule 11: some twenty fields");
        CHECK.due(fields + " fields of " + type, fields <= FIELDS_MOST, true);
        List<Executable> members = new ArrayList<>(List.of(type.getDeclaredMethods()));
        members.addAll(List.of(type.getDeclaredConstructors()));
        CHECK.of("rule 11: at most seven parameters");
        for (Executable member : members) {
            CHECK.due("parameters of " + member, member.getParameterCount() <= PARAMETERS_MOST, true);
        }
    }

    private static boolean isAllowed(Class<?> type) {
        if (type.isArray() && type.getComponentType().isArray()) {
            return type.getComponentType().getComponentType().isPrimitive();
        }
        Class<?> one = type.isArray() ? type.getComponentType() : type;
        return one.isPrimitive() || one == String.class || one.getName().startsWith("MissingLamps");
    }

    private static boolean isOfConstants(Class<?> type) {
        Class<?> one = type.isArray() ? type.getComponentType() : type;
        return Set.of(int.class, long.class, boolean.class, char.class, byte.class, String.class).contains(one);
    }

    private static void checkLibrary(Class<?> type, ClassFile compiled) {
        CHECK.of("rule 4: only what stands here");
        for (String one : compiled.outside) {
            CHECK.due(type + " uses " + one, LIBRARY.contains(one), true);
        }
        CHECK.of("rules 2, 10: no lambda, no texts joined by +");
        CHECK.due(type + " is dynamic", compiled.isDynamic, false);
        CHECK.of("rule 6: no catch");
        CHECK.due(type + " catches", compiled.catches, false);
    }

    private static void checkDepth(Map<String, Set<String>> calls) {
        CHECK.of("rule 8: only the reader of sums calls itself");
        Set<String> recursive = new TreeSet<>();
        for (String one : calls.keySet()) {
            if (reached(calls, one).contains(one)) {
                recursive.add(one);
                CHECK.due(one + " calls itself", one.startsWith("MissingLamps$SumReader.takes"), true);
            }
        }
        CHECK.of("rule 11: calls that are no recursion go at most eight deep");
        CHECK.due("methods that call themselves are found", recursive.size() > 1, true);
        Map<String, Integer> depths = new HashMap<>();
        for (String one : calls.keySet()) {
            int depth = depth(calls, recursive, depths, one);
            CHECK.due(one + " goes " + depth + " deep", depth <= DEPTH_MOST, true);
        }
    }

    private static Set<String> reached(Map<String, Set<String>> calls, String from) {
        Set<String> seen = new TreeSet<>();
        List<String> open = new ArrayList<>(List.of(from));
        while (!open.isEmpty()) {
            for (String next : calls.getOrDefault(open.remove(open.size() - 1), Set.of())) {
                if (seen.add(next)) {
                    open.add(next);
                }
            }
        }
        return seen;
    }

    /** How many calls stand open at once below and with a method, those that call one another counted as one. */
    private static int depth(Map<String, Set<String>> calls, Set<String> recursive, Map<String, Integer> depths,
            String from) {
        if (depths.containsKey(from)) {
            return depths.get(from);
        }
        Set<String> next = new TreeSet<>();
        if (recursive.contains(from)) {
            for (String one : recursive) {
                next.addAll(calls.get(one));
            }
            next.removeAll(recursive);
        } else {
            next.addAll(calls.getOrDefault(from, Set.of()));
        }
        int most = 0;
        for (String one : next) {
            most = Math.max(most, depth(calls, recursive, depths, one));
        }
        depths.put(from, most + 1);
        return most + 1;
    }
}
