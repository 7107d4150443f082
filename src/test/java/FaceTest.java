import java.lang.reflect.Constructor;
import java.lang.reflect.Field;
import java.lang.reflect.Method;
import java.lang.reflect.Modifier;
import java.util.Arrays;
import java.util.Set;
import java.util.TreeSet;

/** The public face is the document's and no more: names, arguments, answers. */
final class FaceTest {
    private static final String DUE = "[alter(int, int, int), come(int, int), "
            + "data(int, int, int, int, boolean), end(int, int), field(int, int, int), "
            + "headers(int, int, boolean), heard(int, int, int, boolean, int), letter(int, int), "
            + "ping(int, int), reset(int, int, int), setting(int, int, int), stream(int, int, int), "
            + "window(int, int, int), wipe(int)]";

    public static void main(String[] args) {
        Class<?> face = FrameStreams.class;
        Check.is("the class", Modifier.PUBLIC | Modifier.FINAL, face.getModifiers());
        Set<String> found = new TreeSet<>();
        for (Method method : face.getDeclaredMethods()) {
            if (!Modifier.isPrivate(method.getModifiers())) {
                found.add(method.getName() + names(method.getParameterTypes()));
                Check.is(method + " is public alone", Modifier.PUBLIC, method.getModifiers());
                Check.is(method + " answers", int.class, method.getReturnType());
                Check.is(method + " declares", 4, method.getExceptionTypes().length);
            }
        }
        Check.is("the methods", DUE, found.toString());
        for (Field field : face.getDeclaredFields()) {
            Check.is(field + " is private", true, Modifier.isPrivate(field.getModifiers()));
        }
        Constructor<?>[] constructors = face.getDeclaredConstructors();
        Check.is("constructors", 1, constructors.length);
        Check.is("it is public", Modifier.PUBLIC, constructors[0].getModifiers());
        Check.is("it takes nothing", 0, constructors[0].getParameterCount());
        Check.end("FaceTest");
    }

    private static String names(Class<?>[] types) {
        return Arrays.toString(Arrays.stream(types).map(Class::getName).toArray()).replace('[', '(').replace(']', ')');
    }
}
