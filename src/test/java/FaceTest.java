import java.lang.reflect.Constructor;
import java.lang.reflect.Executable;
import java.lang.reflect.Field;
import java.lang.reflect.Method;
import java.lang.reflect.Modifier;
import java.util.ArrayList;
import java.util.Arrays;
import java.util.List;
import java.util.Set;
import java.util.TreeSet;

/** The class has the members of the document's face and no other that can be seen, as LANGUAGE.md's rule 1 asks. */
final class FaceTest {
    private static final String INDEX = Script.INDEX;
    private static final String ARGUMENT = Script.ARGUMENT;
    private static final String STATE = Script.STATE;

    /** The document's "The public face", but for the parameters' names. */
    private static final String[] FACE = {
        "public static final int NONE",
        "public PipewrightExchange()",
        "public int district(int, int) throws " + ARGUMENT + ", " + STATE,
        "public int pipe(int, int, int) throws " + INDEX + ", " + ARGUMENT + ", " + STATE,
        "public int source(int) throws " + ARGUMENT + ", " + STATE,
        "public int need(int, int) throws " + INDEX + ", " + ARGUMENT,
        "public int bid(int, int, int) throws " + INDEX + ", " + ARGUMENT + ", " + STATE,
        "public boolean close() throws " + STATE,
        "public int burst(int) throws " + INDEX + ", " + STATE,
        "public void repair(int) throws " + INDEX + ", " + STATE,
        "public int end() throws " + STATE,
        "public int hour()",
        "public int round()",
        "public int ofDistrict(int, int) throws " + INDEX,
        "public int flowAnew(int) throws " + INDEX,
        "public int most(int) throws " + ARGUMENT,
        "public int place(int) throws " + INDEX,
        "public int count(int) throws " + ARGUMENT,
    };

    public static void main(String[] args) {
        Class<?> face = PipewrightExchange.class;
        Script.same("the class", Modifier.toString(face.getModifiers()) + " " + face.getName(),
            "public final PipewrightExchange");
        Script.same("what it extends", face.getSuperclass().getSimpleName(), "Object");
        Script.same("the face", lines(seen(face)), lines(new TreeSet<>(Arrays.asList(FACE))));
        Script.same("private methods by a public one's name", lines(namedAsPublic(face)), "");
        Script.same("classes inside", lines(wrongInside(face)), "");
        Script.finish("FaceTest");
    }

    private static Set<String> seen(Class<?> face) {
        Set<String> seen = new TreeSet<>();
        for (Field f : face.getDeclaredFields()) {
            if (!Modifier.isPrivate(f.getModifiers())) {
                seen.add(Modifier.toString(f.getModifiers()) + " " + f.getType() + " " + f.getName());
            }
        }
        for (Constructor<?> c : face.getDeclaredConstructors()) {
            if (!Modifier.isPrivate(c.getModifiers())) {
                seen.add(Modifier.toString(c.getModifiers()) + " " + face.getName() + takes(c));
            }
        }
        for (Method m : face.getDeclaredMethods()) {
            if (!Modifier.isPrivate(m.getModifiers())) {
                seen.add(Modifier.toString(m.getModifiers()) + " " + m.getReturnType() + " " + m.getName() + takes(m));
            }
        }
        return seen;
    }

    private static String takes(Executable call) {
        String thrown = names(call.getExceptionTypes());
        return "(" + names(call.getParameterTypes()) + ")" + (thrown.isEmpty() ? "" : " throws " + thrown);
    }

    private static String names(Class<?>[] types) {
        List<String> names = new ArrayList<>();
        for (Class<?> type : types) {
            names.add(type.getSimpleName());
        }
        return String.join(", ", names);
    }

    private static Set<String> namedAsPublic(Class<?> face) {
        Set<String> names = new TreeSet<>();
        for (Method a : face.getDeclaredMethods()) {
            for (Method b : face.getDeclaredMethods()) {
                if (Modifier.isPrivate(a.getModifiers()) && Modifier.isPublic(b.getModifiers())
                    && a.getName().equals(b.getName())) {
                    names.add(a.getName());
                }
            }
        }
        return names;
    }

    private static Set<String> wrongInside(Class<?> face) {
        Set<String> names = new TreeSet<>();
        for (Class<?> inside : face.getDeclaredClasses()) {
            int modifiers = inside.getModifiers();
            if (!Modifier.isStatic(modifiers) || Modifier.isPublic(modifiers) || Modifier.isProtected(modifiers)) {
                names.add(inside.getSimpleName());
            }
        }
        return names;
    }

    private static String lines(Set<String> words) {
        return String.join("\n", words);
    }
}
