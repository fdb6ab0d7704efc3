import java.lang.reflect.Constructor;
import java.lang.reflect.Field;
import java.lang.reflect.Method;
import java.lang.reflect.Modifier;
import java.util.ArrayList;
import java.util.List;
import java.util.TreeSet;

/** The public face is the document's, and nothing more can be seen from outside. */
public final class FaceTest {
    private static final String[] FACE = {
        "int go(int, int, boolean) IllegalArgumentException",
        "int falseCut(int) IllegalArgumentException",
        "int comes(int, int, int) IllegalArgumentException, IndexOutOfBoundsException",
        "int card(int) IndexOutOfBoundsException",
        "int find(int) IndexOutOfBoundsException",
        "int watch(boolean) IllegalStateException",
        "int glimpse(int, int) IndexOutOfBoundsException",
        "int thinks(int, int) IndexOutOfBoundsException",
        "int sure(int, int) IndexOutOfBoundsException",
        "int watcher(int, int) IndexOutOfBoundsException",
        "int sit(int) IllegalArgumentException, IllegalStateException",
        "int fan(int) IllegalArgumentException",
        "int take(int) IndexOutOfBoundsException",
        "int force(int, int) IndexOutOfBoundsException",
        "int took(int) IndexOutOfBoundsException",
        "int count(int) IndexOutOfBoundsException",
        "int back(int, int) IllegalArgumentException",
        "int bring(int, int) IndexOutOfBoundsException",
        "int riffles(int, int) IndexOutOfBoundsException",
        "double mean() ",
        "long digest() ",
    };

    public static void main(String[] args) {
        Checks checks = new Checks("FaceTest");
        checks.that("the class is public and final",
            Modifier.isPublic(CardFans.class.getModifiers()) && Modifier.isFinal(CardFans.class.getModifiers()));
        Constructor<?>[] constructors = CardFans.class.getDeclaredConstructors();
        checks.that("one constructor, public and without parameters", constructors.length == 1
            && Modifier.isPublic(constructors[0].getModifiers()) && constructors[0].getParameterCount() == 0);
        for (Field field : CardFans.class.getDeclaredFields()) {
            checks.that(field + " is private", Modifier.isPrivate(field.getModifiers()));
        }
        TreeSet<String> found = new TreeSet<>();
        TreeSet<String> hidden = new TreeSet<>();
        TreeSet<String> shown = new TreeSet<>();
        for (Method method : CardFans.class.getDeclaredMethods()) {
            if (Modifier.isPrivate(method.getModifiers())) {
                hidden.add(method.getName());
            } else {
                found.add(told(method));
                shown.add(method.getName());
            }
        }
        checks.that("the face is " + found, found.equals(new TreeSet<>(List.of(FACE))));
        hidden.retainAll(shown);
        checks.that("private methods with names of public ones: " + hidden, hidden.isEmpty());
        checks.end();
    }

    private static String told(Method method) {
        List<String> takes = new ArrayList<>();
        for (Class<?> each : method.getParameterTypes()) {
            takes.add(each.getSimpleName());
        }
        List<String> throwing = new ArrayList<>();
        for (Class<?> each : method.getExceptionTypes()) {
            throwing.add(each.getSimpleName());
        }
        return method.getReturnType().getSimpleName() + " " + method.getName()
            + "(" + String.join(", ", takes) + ") " + String.join(", ", throwing);
    }
}
