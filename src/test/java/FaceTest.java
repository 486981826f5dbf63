import java.lang.reflect.Constructor;
import java.lang.reflect.Field;
import java.lang.reflect.Method;
import java.lang.reflect.Modifier;
import java.util.Set;
import java.util.TreeSet;

/** The public face is the document's, and nothing but it can be seen from outside. */
public final class FaceTest {
    private static final String A = " throws IllegalArgumentException";
    private static final String I = " throws IndexOutOfBoundsException";
    private static final String S = " throws IllegalStateException";
    private static final String AS = A + ", IllegalStateException";
    private static final String IA = I + ", IllegalArgumentException";
    private static final String IS = I + ", IllegalStateException";
    private static final String IAS = IA + ", IllegalStateException";

    private static final Set<String> FACE = Set.of(
        "int begin()" + S, "int addBar(int, int)" + AS, "int setBar(int, int, int)" + IAS,
        "int removeBar(int)" + IS, "int mark(int, int, boolean)" + AS, "int removeMark(int)" + IS,
        "int cue(int, int, int)" + IAS, "int removeCue(int)" + IS, "int load()" + AS, "int undo()" + S,
        "int keep(int)" + I, "int back(int)" + IS, "int append(int)" + AS, "int clearInput()",
        "int firstError()", "long start(int, int, int)" + IAS, "int advance(int)" + AS, "long stop()" + S,
        "long playing(int)" + A, "int bar(int, int)" + IA, "long beat(int, int)" + IA,
        "long click(int, int)" + I, "int tempo(int, int)" + IA, "long cueAt(int, int)" + IA,
        "int at(long, int)" + A, "long count(int)" + A, "int bestSpeed(int, long)" + IA,
        "int rubberFor(int, long)" + IA, "long ifMark(int, int, int)" + IA, "double meanTempo()",
        "long digest()");

    public static void main(String[] args) throws NoSuchFieldException {
        Doc.says("The constants", "`NONE = -1`: There is no such number.");
        Check.same("NONE", -1, TempoPlayer.NONE);
        Check.isTrue("the class is public and final",
            (TempoPlayer.class.getModifiers() & (Modifier.PUBLIC | Modifier.FINAL)) == (Modifier.PUBLIC | Modifier.FINAL));
        methods();
        fieldsAndConstructors();
        Doc.close(FaceTest.class);
    }

    private static void methods() {
        Set<String> seen = new TreeSet<>();
        Set<String> hidden = new TreeSet<>();
        Set<String> open = new TreeSet<>();
        for (Method method : TempoPlayer.class.getDeclaredMethods()) {
            if (Modifier.isPrivate(method.getModifiers()) || method.isSynthetic()) {
                hidden.add(method.getName());
            } else {
                open.add(method.getName());
                seen.add((Modifier.isPublic(method.getModifiers()) ? "" : "not public: ") + face(method));
            }
        }
        Check.isTrue("the methods of the face: " + difference(seen, FACE) + difference(FACE, seen), seen.equals(FACE));
        hidden.retainAll(open);
        Check.isTrue("private methods with names of public ones: " + hidden, hidden.isEmpty());
    }

    private static Set<String> difference(Set<String> one, Set<String> other) {
        Set<String> rest = new TreeSet<>(one);
        rest.removeAll(other);
        return rest;
    }

    private static String face(Method method) {
        StringBuilder text = new StringBuilder();
        text.append(method.getReturnType().getSimpleName()).append(' ').append(method.getName()).append('(');
        list(text, method.getParameterTypes());
        text.append(')');
        if (method.getExceptionTypes().length > 0) {
            list(text.append(" throws "), method.getExceptionTypes());
        }
        return text.toString();
    }

    private static void list(StringBuilder text, Class<?>[] types) {
        for (int index = 0; index < types.length; index++) {
            text.append(index == 0 ? "" : ", ").append(types[index].getSimpleName());
        }
    }

    private static void fieldsAndConstructors() throws NoSuchFieldException {
        for (Field field : TempoPlayer.class.getDeclaredFields()) {
            boolean none = field.getName().equals("NONE");
            Check.isTrue(field.getName() + " is private", none || Modifier.isPrivate(field.getModifiers()));
        }
        int none = TempoPlayer.class.getDeclaredField("NONE").getModifiers();
        Check.isTrue("NONE is a constant", Modifier.isPublic(none) && Modifier.isStatic(none) && Modifier.isFinal(none));
        Constructor<?>[] constructors = TempoPlayer.class.getDeclaredConstructors();
        Check.same("constructors", 1, constructors.length);
        Check.isTrue("the constructor is public", Modifier.isPublic(constructors[0].getModifiers()));
        Check.same("its parameters", 0, constructors[0].getParameterCount());
    }
}
