import java.lang.reflect.Constructor;
import java.lang.reflect.Field;
import java.lang.reflect.Method;
import java.lang.reflect.Modifier;
import java.util.List;
import java.util.Set;
import java.util.TreeSet;
import java.util.regex.Matcher;
import java.util.regex.Pattern;

/** The public face is the document's, and nothing but it can be seen from outside. */
public final class FaceTest {
    private static final Pattern METHOD = Pattern.compile("    public (\\w+ \\w+)\\(([^()]*)\\)( throws [\\w, ]+)?;");

    public static void main(String[] args) throws NoSuchFieldException {
        Doc.says("The constants", "`NONE = -1`: There is no such number.");
        Check.same("NONE", -1, TempoPlayer.NONE);
        Check.isTrue("the class is public and final",
            (TempoPlayer.class.getModifiers() & (Modifier.PUBLIC | Modifier.FINAL)) == (Modifier.PUBLIC | Modifier.FINAL));
        Set<String> due = methodsOfTheDocument();
        methods(due);
        calls(due);
        fieldsAndConstructors();
        Doc.close(FaceTest.class);
    }

    /** Its face has the class, the constant, the constructor and the methods, a line each. */
    private static Set<String> methodsOfTheDocument() {
        List<String> lines = Doc.face();
        Check.sameText("the class", "public final class TempoPlayer {", lines.get(0));
        Check.sameText("the constant", "    public static final int NONE = -1;", lines.get(1));
        Check.sameText("the constructor", "    public TempoPlayer();", lines.get(2));
        Check.sameText("the end", "}", lines.get(lines.size() - 1));
        Set<String> methods = new TreeSet<>();
        for (String line : lines.subList(3, lines.size() - 1)) {
            Matcher method = METHOD.matcher(line);
            Check.isTrue(line + " is a method", method.matches());
            String types = method.group(2).replaceAll(" \\w+(?=,|$)", "");
            methods.add(method.group(1) + "(" + types + ")" + (method.group(3) == null ? "" : method.group(3)));
        }
        return methods;
    }

    /** So that the other tests leave out no call. */
    private static void calls(Set<String> due) {
        Set<String> names = new TreeSet<>();
        due.forEach(method -> names.add(method.substring(method.indexOf(' ') + 1, method.indexOf('('))));
        Check.sameText("the calls that tests make", names.toString(), new TreeSet<>(List.of(Calls.NAMES)).toString());
    }

    private static void methods(Set<String> due) {
        Set<String> seen = new TreeSet<>();
        Set<String> hidden = new TreeSet<>();
        Set<String> open = new TreeSet<>();
        for (Method method : TempoPlayer.class.getDeclaredMethods()) {
            if (Modifier.isPrivate(method.getModifiers()) || method.isSynthetic()) {
                hidden.add(method.getName());
            } else {
                open.add(method.getName());
                seen.add((Modifier.isPublic(method.getModifiers()) ? "" : "not public: ") + face(method));
            }
        }
        Check.isTrue("the methods of the face: " + difference(seen, due) + difference(due, seen), seen.equals(due));
        hidden.retainAll(open);
        Check.isTrue("private methods with names of public ones: " + hidden, hidden.isEmpty());
    }

    private static Set<String> difference(Set<String> one, Set<String> other) {
        Set<String> rest = new TreeSet<>(one);
        rest.removeAll(other);
        return rest;
    }

    private static String face(Method method) {
        StringBuilder text = new StringBuilder();
        text.append(method.getReturnType().getSimpleName()).append(' ').append(method.getName()).append('(');
        list(text, method.getParameterTypes());
        text.append(')');
        if (method.getExceptionTypes().length > 0) {
            list(text.append(" throws "), method.getExceptionTypes());
        }
        return text.toString();
    }

    private static void list(StringBuilder text, Class<?>[] types) {
        for (int index = 0; index < types.length; index++) {
            text.append(index == 0 ? "" : ", ").append(types[index].getSimpleName());
        }
    }

    private static void fieldsAndConstructors() throws NoSuchFieldException {
        for (Field field : TempoPlayer.class.getDeclaredFields()) {
            boolean none = field.getName().equals("NONE");
            Check.isTrue(field.getName() + " is private", none || Modifier.isPrivate(field.getModifiers()));
        }
        int none = TempoPlayer.class.getDeclaredField("NONE").getModifiers();
        Check.isTrue("NONE is a constant", Modifier.isPublic(none) && Modifier.isStatic(none) && Modifier.isFinal(none));
        Constructor<?>[] constructors = TempoPlayer.class.getDeclaredConstructors();
        Check.same("constructors", 1, constructors.length);
        Check.isTrue("the constructor is public", Modifier.isPublic(constructors[0].getModifiers()));
        Check.same("its parameters", 0, constructors[0].getParameterCount());
    }
}
