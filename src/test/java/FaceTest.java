import java.lang.reflect.Constructor;
import java.lang.reflect.Field;
import java.lang.reflect.Member;
import java.lang.reflect.Method;
import java.lang.reflect.Modifier;
import java.util.Arrays;
import java.util.Set;
import java.util.TreeSet;

/** The class has the document's public face and nothing beside it. */
public final class FaceTest {
    private static final String[] CONSTANTS = {
        "NO_SUCH=-100001", "BAD_VALUE=-100002", "BAD_TEXT=-100003", "TOO_MANY=-100004", "NONE=-100005",
        "CAPACITY=0", "PATIENCE=1", "BACKOFF=2", "RETRIES=3", "SHARE=0", "RATE=1", "BURST=2", "LIMIT=3",
        "WAITING=0", "RUNNING=1", "DONE=2", "DELAYED=3", "REJECTED=4"};
    private static final String[] METHODS = {
        "int set(2)", "int setClass(3)", "int offer(3)", "int advance(1)", "int append(1)", "int clearText(0)",
        "int fault(0)", "int run(0)", "int undo(0)", "int setting(1)", "int classSetting(2)", "int clock(0)",
        "int estimate(1)", "int tokens(1)", "int pass(1)", "int queued(1)", "int queuedAt(2)", "int backlog(1)",
        "int worked(1)", "int refused(2)", "int idle(0)", "float workShare(1)", "int requests(0)", "int state(1)",
        "int price(1)", "int done(1)", "int offers(1)", "int reason(1)", "int when(1)", "int wouldRefuse(2)",
        "int ticksLeft(0)", "int ticksIf(1)", "int leastCapacity(0)", "int finish(1)"};

    public static void main(String[] args) throws IllegalAccessException {
        Class<AdmissionControl> face = AdmissionControl.class;
        Check.holds("public final", Modifier.isPublic(face.getModifiers()) && Modifier.isFinal(face.getModifiers()));
        constants(face);
        methods(face);
        Constructor<?>[] constructors = face.getDeclaredConstructors();
        Check.due("constructors", constructors.length, 1);
        Check.due("parameters of the constructor", constructors[0].getParameterCount(), 0);
        Check.holds("the constructor is public", Modifier.isPublic(constructors[0].getModifiers()));
        for (Class<?> inside : face.getDeclaredClasses()) {
            int flags = inside.getModifiers();
            Check.holds(inside + " is private and static", Modifier.isPrivate(flags) && Modifier.isStatic(flags));
            for (Method method : inside.getDeclaredMethods()) {
                boolean isOfTheFace = Arrays.stream(METHODS).anyMatch(m -> m.contains(" " + method.getName() + "("));
                Check.holds(method + " bears no name of the face", !isOfTheFace);
            }
        }
        Check.end("FaceTest");
    }

    private static void constants(Class<?> face) throws IllegalAccessException {
        Set<String> found = new TreeSet<>();
        for (Field field : face.getDeclaredFields()) {
            if (Modifier.isPublic(field.getModifiers())) {
                Check.holds(field + " is static and final",
                    Modifier.isStatic(field.getModifiers()) && Modifier.isFinal(field.getModifiers()));
                Check.holds(field + " is an int", field.getType() == int.class);
                found.add(field.getName() + "=" + field.getInt(null));
            } else {
                isPrivate(field);
            }
        }
        same("constants", found, CONSTANTS);
    }

    private static void methods(Class<?> face) {
        Set<String> found = new TreeSet<>();
        for (Method method : face.getDeclaredMethods()) {
            if (Modifier.isPublic(method.getModifiers())) {
                Check.holds(method + " is not static", !Modifier.isStatic(method.getModifiers()));
                for (Class<?> parameter : method.getParameterTypes()) {
                    Check.holds(method + " takes ints", parameter == int.class);
                }
                found.add(method.getReturnType() + " " + method.getName() + "(" + method.getParameterCount() + ")");
            } else {
                isPrivate(method);
            }
        }
        same("methods", found, METHODS);
    }

    private static void isPrivate(Member member) {
        Check.holds(member + " is private", Modifier.isPrivate(member.getModifiers()));
    }

    private static void same(String what, Set<String> found, String[] wanted) {
        Set<String> want = new TreeSet<>(Arrays.asList(wanted));
        Check.holds("the " + what + ": " + found, found.equals(want));
    }
}
