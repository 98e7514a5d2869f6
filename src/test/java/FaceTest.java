import java.lang.reflect.Constructor;
import java.lang.reflect.Field;
import java.lang.reflect.Method;
import java.lang.reflect.Modifier;
import java.util.Arrays;
import java.util.Set;
import java.util.TreeSet;

/** Promise 1 and the public face. */
public final class FaceTest {
    public static void main(String[] args) {
        newObject();
        objectsApart();
        face();
        Check.finish();
    }

    private static void newObject() {
        InspectSteps x = new InspectSteps();
        Check.due("NONE", -1, InspectSteps.NONE);
        Check.due("inspections", 0, x.count(0));
        Check.due("samples", 0, x.count(1));
        Check.due("NOW", 0, x.count(2));
        for (int d = 0; d < 10; d++) {
            Check.due("seal", 0, x.count(10 + d));
            Check.due("offices", 0, x.count(20 + d));
            Check.due("costs", 0, x.count(30 + d));
            Check.due("differ by 2", 0, x.count(40 + d));
            Check.due("release", 0, x.release(d));
        }
        for (int person = 0; person < 10; person++) {
            for (int kind = 0; kind <= 5; kind++) {
                Check.no("no right is there to take", x.right(person, kind, false));
            }
        }
        Check.outside("look at no inspection", () -> x.look(0, 0));
    }

    private static void objectsApart() {
        InspectSteps one = Scene.sampled(1);
        one.hold(0, 1, true);
        one.tick(7);
        InspectSteps other = new InspectSteps();
        Check.due("inspections of another", 0, other.count(0));
        Check.due("samples of another", 0, other.count(1));
        Check.due("NOW of another", 0, other.count(2));
        Check.due("release of another", 0, other.release(0));
        Check.yes("rights of another", other.right(0, 3, true));
    }

    private static void face() {
        Set<String> want = new TreeSet<>(Arrays.asList(
                "boolean right(int, int, boolean)",
                "int inspection(int, int, int) IllegalArgumentException IllegalStateException",
                "int plan(int, int, int, int) IllegalArgumentException",
                "int begin(int, int) IllegalArgumentException",
                "int end(int, int, boolean) IllegalArgumentException",
                "boolean giveUp(int)",
                "int seal(int, int, int, int) IllegalArgumentException",
                "int sample(int, int) IllegalArgumentException IllegalStateException",
                "int result(int, int, int, int) IllegalArgumentException",
                "boolean declared(int, int, int)",
                "boolean tolerance(int, int, int)",
                "boolean hold(int, int, boolean)",
                "int settle(int) IllegalArgumentException",
                "int tick(int) IllegalArgumentException",
                "int release(int) IllegalArgumentException",
                "int look(int, int) IndexOutOfBoundsException",
                "int count(int)"));
        Set<String> got = new TreeSet<>();
        Set<String> open = new TreeSet<>();
        for (Method m : InspectSteps.class.getDeclaredMethods()) {
            if (Modifier.isPrivate(m.getModifiers())) {
                continue;
            }
            got.add(told(m));
            open.add(m.getName());
            Check.yes(m + " is public", Modifier.isPublic(m.getModifiers()));
        }
        Check.yes("the methods are those of the document: " + got, got.equals(want));
        for (Method m : InspectSteps.class.getDeclaredMethods()) {
            Check.no(m + " bears a public one's name",
                    Modifier.isPrivate(m.getModifiers()) && open.contains(m.getName()));
        }
        for (Field f : InspectSteps.class.getDeclaredFields()) {
            Check.yes(f + " is private", Modifier.isPrivate(f.getModifiers()) != f.getName().equals("NONE"));
        }
        Constructor<?>[] made = InspectSteps.class.getDeclaredConstructors();
        Check.due("constructors", 1, made.length);
        Check.yes("it is public", Modifier.isPublic(made[0].getModifiers()));
        Check.yes("the class is final", Modifier.isFinal(InspectSteps.class.getModifiers()));
    }

    private static String told(Method m) {
        StringBuilder text = new StringBuilder();
        text.append(m.getReturnType().getSimpleName()).append(' ').append(m.getName()).append('(');
        String between = "";
        for (Class<?> type : m.getParameterTypes()) {
            text.append(between).append(type.getSimpleName());
            between = ", ";
        }
        text.append(')');
        for (Class<?> type : m.getExceptionTypes()) {
            text.append(' ').append(type.getSimpleName());
        }
        return text.toString();
    }
}
