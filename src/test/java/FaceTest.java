import java.lang.reflect.Constructor;
import java.lang.reflect.Field;
import java.lang.reflect.Method;
import java.lang.reflect.Modifier;
import java.util.ArrayList;
import java.util.Arrays;
import java.util.List;
import java.util.Set;
import java.util.TreeSet;

/** The class shows the document's face, and nothing else. */
public final class FaceTest {
    private static final String[] FACE = {
        "int treaty(1)", "int drinker(2)", "int waker(2)", "int comes(2)", "int wakes(2)",
        "int tires(2)", "int sleeps(1)", "int bags(1)", "int days(1)", "int owesThen(2)",
        "int tiredThen(2)", "int then(2)", "int firstAsleep(1)", "int out(0)",
        "int bestWaker(3)", "int match(1)", "int milk(1)", "int fewest(1)", "int store(1)",
        "int heaviest(1)", "int rest(2)", "int whatIs(3)", "int shed(2)", "int two(3)",
        "long falls(4)", "long mean(1)", "int forged(1)", "int judge(1)", "int years(3)",
        "int image(0)", "int restore(0)", "int count(1)", "int keep(4)", "int row(3)",
        "int put(3)", "long element(2)", "int copy(5)", "int cost(1)", "int toss(1)",
    };

    /** Rule 5 of ../shared/LANGUAGE.md; constants of enums, and their values(), besides. */
    private static final Set<Class<?>> CONSTANTS = Set.of(int.class, long.class, boolean.class,
        char.class, String.class, int[].class, long[].class, char[].class, byte[].class);

    private FaceTest() {
    }

    public static void main(String[] args) {
        Class<?> face = BeansOnTheOtherSide.class;
        Due.holds("public and final", face.getModifiers() == (Modifier.PUBLIC | Modifier.FINAL));
        List<String> shown = new ArrayList<>();
        Set<String> names = new TreeSet<>();
        for (Method m : face.getDeclaredMethods()) {
            if (Modifier.isPublic(m.getModifiers())) {
                names.add(m.getName());
                shown.add(m.getReturnType() + " " + m.getName() + "(" + m.getParameterCount() + ")");
                for (Class<?> type : m.getParameterTypes()) {
                    Due.holds(m + " takes ints", type == int.class);
                }
                Due.holds(m + " is no static one", m.getModifiers() == Modifier.PUBLIC);
            }
        }
        List<String> due = new ArrayList<>(Arrays.asList(FACE));
        due.sort(null);
        shown.sort(null);
        Due.holds("the face " + shown + " is " + due, shown.equals(due));
        hiddenMembers(face, names);
        for (Class<?> inside : face.getDeclaredClasses()) {
            Due.holds(inside + " is static", Modifier.isStatic(inside.getModifiers()));
            Due.holds(inside + " is not public", !Modifier.isPublic(inside.getModifiers()));
            staticFields(inside);
        }
        staticFields(face);
        Due.holds("some twelve classes", face.getDeclaredClasses().length <= 12);
        Due.close();
    }

    private static void hiddenMembers(Class<?> face, Set<String> names) {
        for (Method m : face.getDeclaredMethods()) {
            if (!Modifier.isPublic(m.getModifiers())) {
                Due.holds(m + " is private", Modifier.isPrivate(m.getModifiers()) || m.isSynthetic());
                Due.holds(m + " bears a name of its own", !names.contains(m.getName()));
                Due.holds(m + " takes at most seven", m.getParameterCount() <= 7);
            }
        }
        for (Field f : face.getDeclaredFields()) {
            Due.holds(f + " is private", Modifier.isPrivate(f.getModifiers()));
        }
        Constructor<?>[] made = face.getDeclaredConstructors();
        Due.is("constructors", made.length, 1);
        Due.holds("it is public, without arguments",
            Modifier.isPublic(made[0].getModifiers()) && made[0].getParameterCount() == 0);
    }

    private static boolean mayBeConstant(Class<?> type) {
        return CONSTANTS.contains(type) || type.isEnum()
            || type.isArray() && type.getComponentType().isEnum();
    }

    private static void staticFields(Class<?> of) {
        int own = 0;
        for (Field f : of.getDeclaredFields()) {
            if (Modifier.isStatic(f.getModifiers())) {
                Due.holds(f + " is a constant", Modifier.isFinal(f.getModifiers()) && mayBeConstant(f.getType()));
            } else {
                own++;
            }
        }
        Due.holds(of + " has some twenty fields", own <= 20);
    }
}
