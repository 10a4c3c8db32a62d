import java.lang.reflect.Constructor;
import java.lang.reflect.Field;
import java.lang.reflect.Method;
import java.lang.reflect.Modifier;
import java.util.Set;
import java.util.TreeSet;

/** The public face is the document's, and no other member can be seen from outside. */
public final class FaceTest {
    private static final String[] DUE = {
        "int feed(int,int,int,int,int)", "boolean end(int)", "int quay()", "int fault(int)", "int has(int)",
        "int letter(int,int,int)", "int cell(int,int,int)", "int thing(int,int)", "int folk(int,int)",
        "int later(int,int,int)", "int home(int)", "int missing(int,int)", "int losses(int,int)",
        "int worst(int,int)", "int cover()", "int send(int)", "int odds(int)", "int meet()", "int hues(int)",
        "int tells(int,int)", "int nights(int)", "int chance(int)", "boolean lose(int)", "boolean find(int)",
        "boolean lead(int,int,int)", "boolean undo()", "boolean seed(int)", "int kept(int,int)", "int image()",
        "int octet(int)", "boolean on()", "int status(int)",
    };

    public static void main(String[] args) {
        Set<String> wrong = new TreeSet<>();
        Set<String> due = new TreeSet<>(Set.of(DUE));
        Set<String> names = new TreeSet<>();
        for (String one : DUE) {
            names.add(one.substring(one.indexOf(' ') + 1, one.indexOf('(')));
        }
        for (Method method : MissingLamps.class.getDeclaredMethods()) {
            boolean isPublic = Modifier.isPublic(method.getModifiers());
            if (isPublic && !due.remove(told(method))) {
                wrong.add("not of the face: " + told(method));
            }
            if (!isPublic && !Modifier.isPrivate(method.getModifiers())) {
                wrong.add("seen from outside: " + told(method));
            }
            if (!isPublic && names.contains(method.getName())) {
                wrong.add("has the name of a public one: " + told(method));
            }
        }
        for (String left : due) {
            wrong.add("not there: " + left);
        }
        checkFields(wrong);
        checkClasses(wrong, names);
        for (String line : wrong) {
            System.out.println(line);
        }
        System.exit(wrong.isEmpty() ? 0 : 1);
    }

    private static void checkFields(Set<String> wrong) {
        for (Field field : MissingLamps.class.getDeclaredFields()) {
            int m = field.getModifiers();
            boolean isFace = field.getName().equals("NONE") && Modifier.isPublic(m);
            if (!isFace && !Modifier.isPrivate(m)) {
                wrong.add("seen from outside: " + field);
            }
            if (Modifier.isStatic(m) && !Modifier.isFinal(m)) {
                wrong.add("static and not final: " + field);
            }
        }
        for (Constructor<?> constructor : MissingLamps.class.getDeclaredConstructors()) {
            if (constructor.getParameterCount() != 0 || !Modifier.isPublic(constructor.getModifiers())) {
                wrong.add("a constructor beside the face: " + constructor);
            }
        }
        if (!Modifier.isFinal(MissingLamps.class.getModifiers()) || MissingLamps.NONE != -1) {
            wrong.add("the class is not final, or NONE is not -1");
        }
    }

    private static void checkClasses(Set<String> wrong, Set<String> names) {
        Class<?>[] inside = MissingLamps.class.getDeclaredClasses();
        if (inside.length + 1 > 12) {
            wrong.add("too many classes: " + (inside.length + 1));
        }
        for (Class<?> one : inside) {
            if (!Modifier.isStatic(one.getModifiers()) || Modifier.isPublic(one.getModifiers())) {
                wrong.add("not static, or public: " + one);
            }
            for (Method method : one.getDeclaredMethods()) {
                if (names.contains(method.getName())) {
                    wrong.add("has the name of a public one: " + one.getSimpleName() + " " + told(method));
                }
                if (method.getParameterCount() > 7) {
                    wrong.add("too many parameters: " + told(method));
                }
            }
        }
    }

    private static String told(Method method) {
        StringBuilder text = new StringBuilder(method.getReturnType().getSimpleName());
        text.append(' ').append(method.getName()).append('(');
        String comma = "";
        for (Class<?> type : method.getParameterTypes()) {
            text.append(comma).append(type.getSimpleName());
            comma = ",";
        }
        return text.append(')').toString();
    }
}
