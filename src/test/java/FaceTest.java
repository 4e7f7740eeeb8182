import java.lang.reflect.Constructor;
import java.lang.reflect.Field;
import java.lang.reflect.Method;
import java.lang.reflect.Modifier;
import java.util.Set;
import java.util.TreeSet;

/** Rule 1 of LANGUAGE.md: the face is the document's, and nothing else is to be seen. */
public final class FaceTest {
    private static final Due DUE = new Due("FaceTest");
    private static final String[] FACE = {
        "batch 1", "of 2", "change 3", "put 2", "heats 2", "how 1", "shovel 1", "rule 2", "walk 1", "crowd 3",
        "crowdOf 2", "late 3", "minutes 1", "now 1", "at 1", "ahead 2", "ready 1", "burnt 1", "putOn 2",
        "takeOff 2", "shovels 1", "corner 1", "two 2", "price 1", "kindFor 2", "heatFor 2", "brings 2", "best 1",
        "left 1", "boys 1", "seed 1", "feed 2", "wipe 0", "text 0", "hold 2", "as 2", "sheet 3", "write 3",
        "copy 5", "load 1", "judge 1", "image 0", "undo 0", "tear 0", "count 1", "status 1"};

    public static void main(String[] args) {
        Class<?> face = ChestnutCorner.class;
        DUE.holds("public", Modifier.isPublic(face.getModifiers()));
        DUE.holds("final", Modifier.isFinal(face.getModifiers()));
        methods(face);
        constructors(face);
        fields(face);
        inside(face);
        DUE.end();
    }

    private static Set<String> names() {
        Set<String> names = new TreeSet<>();
        for (String call : FACE) {
            names.add(call.substring(0, call.indexOf(' ')));
        }
        return names;
    }

    private static void methods(Class<?> face) {
        Set<String> open = new TreeSet<>();
        for (Method m : face.getDeclaredMethods()) {
            if (Modifier.isPrivate(m.getModifiers())) {
                DUE.holds(m + " bears no public name", !names().contains(m.getName()));
                continue;
            }
            DUE.holds(m + " is public, of the object, and tells an int", Modifier.isPublic(m.getModifiers())
                    && !Modifier.isStatic(m.getModifiers()) && m.getReturnType() == int.class);
            for (Class<?> type : m.getParameterTypes()) {
                DUE.holds(m + " takes ints", type == int.class);
            }
            open.add(m.getName() + " " + m.getParameterCount());
        }
        DUE.holds("the methods are those of the document: " + open, open.equals(new TreeSet<>(Set.of(FACE))));
    }

    private static void constructors(Class<?> face) {
        for (Constructor<?> c : face.getDeclaredConstructors()) {
            DUE.holds(c + " is the document's", Modifier.isPublic(c.getModifiers()) && c.getParameterCount() == 0);
        }
    }

    private static void fields(Class<?> face) {
        for (Field f : face.getDeclaredFields()) {
            DUE.holds(f + " is private", Modifier.isPrivate(f.getModifiers()));
            DUE.holds(f + ", being static, is final",
                    !Modifier.isStatic(f.getModifiers()) || Modifier.isFinal(f.getModifiers()));
        }
    }

    private static void inside(Class<?> face) {
        for (Class<?> c : face.getDeclaredClasses()) {
            int is = c.getModifiers();
            DUE.holds(c + " is static and not open", Modifier.isStatic(is)
                    && !Modifier.isPublic(is) && !Modifier.isProtected(is));
            for (Method m : c.getDeclaredMethods()) {
                DUE.holds(m + " bears no public name", !names().contains(m.getName()));
            }
        }
    }
}
