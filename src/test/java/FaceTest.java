import java.lang.reflect.Constructor;
import java.lang.reflect.Field;
import java.lang.reflect.Method;
import java.lang.reflect.Modifier;
import java.util.Arrays;
import java.util.Set;
import java.util.TreeSet;

/** The public face is the document's, and no more. */
final class FaceTest {
    private static final String[] FACE = {
        "feed 5", "end 1", "load 1", "fault 1", "copy 2", "look 2", "row 3", "put 5", "strike 2", "run 2",
        "step 3", "by 2", "holds 2", "hit 3", "hits 2", "leads 2", "stands 1", "core 1", "ask 1", "answer 2",
        "follows 1", "ends 1", "rank 3", "columns 2"};

    public static void main(String[] args) {
        Set<String> open = new TreeSet<>();
        Set<String> names = new TreeSet<>();
        for (String call : FACE) {
            names.add(call.substring(0, call.indexOf(' ')));
        }
        for (Method m : ChaseHall.class.getDeclaredMethods()) {
            if (!Modifier.isPrivate(m.getModifiers())) {
                open.add(m.getName() + " " + m.getParameterCount());
            } else {
                Check.no("private " + m.getName() + " bears a public name", names.contains(m.getName()));
            }
        }
        Check.sameText("methods", new TreeSet<>(Arrays.asList(FACE)).toString(), open.toString());
        for (Field f : ChaseHall.class.getDeclaredFields()) {
            boolean isOpen = !Modifier.isPrivate(f.getModifiers());
            Check.same("open field " + f.getName(), f.getName().equals("NONE") ? 1 : 0, isOpen ? 1 : 0);
            Check.yes("static " + f.getName() + " is final",
                    !Modifier.isStatic(f.getModifiers()) || Modifier.isFinal(f.getModifiers()));
        }
        Check.same("NONE", -1, ChaseHall.NONE);
        Check.same("constructors", 1, ChaseHall.class.getDeclaredConstructors().length);
        for (Constructor<?> c : ChaseHall.class.getDeclaredConstructors()) {
            Check.yes("public constructor", Modifier.isPublic(c.getModifiers()) && c.getParameterCount() == 0);
        }
        Check.yes("final class", Modifier.isFinal(ChaseHall.class.getModifiers()));
        for (Class<?> inside : ChaseHall.class.getDeclaredClasses()) {
            Check.no(inside.getSimpleName() + " is open",
                    Modifier.isPublic(inside.getModifiers()) || Modifier.isProtected(inside.getModifiers()));
        }
        Check.yes("some twelve classes", ChaseHall.class.getDeclaredClasses().length < 14);
        Check.finish("FaceTest");
    }
}
