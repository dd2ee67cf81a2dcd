import java.lang.reflect.Constructor;
import java.lang.reflect.Field;
import java.lang.reflect.Method;
import java.lang.reflect.Modifier;
import java.util.Arrays;
import java.util.Set;
import java.util.TreeSet;

/** The class has the members of the document's face and no other that can be seen, as LANGUAGE.md's rule 1 asks. */
final class FaceTest {
    private static final String[] FACE = {
        "NONE int", "PipewrightExchange()", "district(int, int) int", "pipe(int, int, int) int", "source(int) int",
        "need(int, int) int", "bid(int, int, int) int", "close() boolean", "burst(int) int", "repair(int) void",
        "end() int", "hour() int", "round() int", "ofDistrict(int, int) int", "flowAnew(int) int", "most(int) int",
        "place(int) int", "count(int) int",
    };

    public static void main(String[] args) {
        Class<?> face = PipewrightExchange.class;
        Set<String> seen = new TreeSet<>();
        for (Field f : face.getDeclaredFields()) {
            if (!Modifier.isPrivate(f.getModifiers())) {
                seen.add(f.getName() + " " + f.getType());
            }
        }
        for (Constructor<?> c : face.getDeclaredConstructors()) {
            seen.add(face.getSimpleName() + words(c.getParameterTypes()));
        }
        for (Method m : face.getDeclaredMethods()) {
            if (!Modifier.isPrivate(m.getModifiers())) {
                seen.add(m.getName() + words(m.getParameterTypes()) + " " + m.getReturnType());
                Script.same(m.getName() + " is public", "" + Modifier.isPublic(m.getModifiers()), "true");
            }
        }
        Script.same("the face", seen.toString(), new TreeSet<>(Arrays.asList(FACE)).toString());
        Script.same("public and final", Modifier.toString(face.getModifiers()), "public final");
        for (Class<?> inner : face.getDeclaredClasses()) {
            Script.same(inner.getSimpleName() + " is static", "" + Modifier.isStatic(inner.getModifiers()), "true");
        }
        Script.finish("FaceTest");
    }

    private static String words(Class<?>[] types) {
        return Arrays.toString(types).replace('[', '(').replace(']', ')');
    }
}
