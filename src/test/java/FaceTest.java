import java.lang.reflect.Constructor;
import java.lang.reflect.Field;
import java.lang.reflect.Method;
import java.lang.reflect.Modifier;
import java.util.Arrays;
import java.util.Set;
import java.util.TreeSet;

/** The public face, and rule 1 of LANGUAGE.md: just the document's members, and no others to be seen. */
public final class FaceTest {
    private static final String[] FACE = {
        "int road(int)", "int part(int, int)", "int adds(int, int, int)", "int holds(int)", "int wedges(int)",
        "int outs(int)", "int screws(int)", "int set(int, int)", "int drives(int)", "int heard(int, int)",
        "int loudest(int)", "int paces(int, int)", "int silentFrom(int, int)", "int holdAll(int)",
        "int radio(int)", "int wanted(int)", "int bestSeat()", "int which(int, int)", "int two(int, int)",
        "int tryNext(int)", "long halves(int, int)", "long oneByOne(int, int)", "int worse(int)",
        "int gone(int, int)", "long ear(int, int, int, int)", "int likeliest(int, int)", "int mends(int)",
        "int mechanic(int, int, int, int)", "int worth(int)", "int quiet(int, int)", "int forged(int)",
        "int judge(int)", "int winters(int, int, int)", "int image()", "int restore()", "int count(int)",
        "int keep(int, int, int, int)", "int row(int, int, int)", "int put(int, int, int)",
        "long element(int, int) throws IllegalArgumentException IllegalStateException",
        "int copy(int, int, int, int, int)", "int cost(int)", "int toss(int)",
    };

    public static void main(String[] args) {
        Set<String> due = new TreeSet<>(Arrays.asList(FACE));
        Set<String> got = new TreeSet<>();
        Set<String> names = new TreeSet<>();
        for (Method m : RattleAtFifty.class.getDeclaredMethods()) {
            if (Modifier.isPrivate(m.getModifiers())) {
                continue;
            }
            Due.holds(m + " is public and no static one", Modifier.isPublic(m.getModifiers())
                && !Modifier.isStatic(m.getModifiers()));
            got.add(shape(m));
            names.add(m.getName());
        }
        Due.holds("the face is " + got, got.equals(due));
        for (Field f : RattleAtFifty.class.getDeclaredFields()) {
            Due.holds(f + " is private", Modifier.isPrivate(f.getModifiers()));
        }
        Constructor<?>[] constructors = RattleAtFifty.class.getDeclaredConstructors();
        Due.is("constructors", constructors.length, 1);
        Due.holds("a public one without parameters", Modifier.isPublic(constructors[0].getModifiers())
            && constructors[0].getParameterCount() == 0);
        Due.holds("the class is public and final", Modifier.isPublic(RattleAtFifty.class.getModifiers())
            && Modifier.isFinal(RattleAtFifty.class.getModifiers()));
        noOtherBearsTheNames(names);
        Due.ends();
    }

    private static String shape(Method m) {
        StringBuilder shape = new StringBuilder(m.getReturnType() + " " + m.getName() + "(");
        for (int i = 0; i < m.getParameterCount(); i++) {
            shape.append(i == 0 ? "" : ", ").append(m.getParameterTypes()[i]);
        }
        shape.append(")");
        for (int i = 0; i < m.getExceptionTypes().length; i++) {
            shape.append(i == 0 ? " throws " : " ").append(m.getExceptionTypes()[i].getSimpleName());
        }
        return shape.toString();
    }

    private static void noOtherBearsTheNames(Set<String> names) {
        for (Method m : RattleAtFifty.class.getDeclaredMethods()) {
            Due.holds(m + " bears a public name", Modifier.isPublic(m.getModifiers()) || !names.contains(m.getName()));
        }
        for (Class<?> inner : RattleAtFifty.class.getDeclaredClasses()) {
            Due.holds(inner + " is static and not public", Modifier.isStatic(inner.getModifiers())
                && !Modifier.isPublic(inner.getModifiers()) && !Modifier.isProtected(inner.getModifiers()));
            for (Method m : inner.getDeclaredMethods()) {
                Due.holds(m + " bears a public name", !names.contains(m.getName()));
            }
        }
    }
}
