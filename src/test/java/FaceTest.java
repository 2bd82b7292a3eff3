import java.lang.reflect.Constructor;
import java.lang.reflect.Field;
import java.lang.reflect.Method;
import java.lang.reflect.Modifier;
import java.util.Arrays;
import java.util.Set;
import java.util.TreeSet;

/** The public face of the class: all of it, and nothing that is not private beside it. */
public final class FaceTest {
    private static final String[] FACE = {
        "int room(int)", "int sender(int, int)", "int returner(int, int)", "int set(int, int)", "int holds(int, int)",
        "int pair(int, int, boolean)", "int all()", "int of(int, int)", "int sumSent(int, int)",
        "int sumCame(int, int)", "int judge(int)", "int sends(int, int)", "int back(int, int, boolean)",
        "int held(int, int)", "int trust(int, int)", "int giving(int)", "int best(int, int)",
        "int worth(int, int, int)", "int promise(int, int, int)", "int lastTurn(int, int, int)", "int lands(int, int)",
        "int words(int, int)", "int parts(int, int, int, int)", "int image()", "int restore()", "int count(int)",
        "int keep(int, int, int)", "int row(int, int, int)", "int put(int, int, int)", "long element(int, int)",
        "int copy(int, int, int, int, int)", "int faith(int)", "int toss(int)"};

    private static final Check CHECK = new Check();

    public static void main(String[] args) throws NoSuchMethodException {
        CHECK.about("the face");
        int modifiers = ThreeTimes.class.getModifiers();
        CHECK.due("public", Modifier.isPublic(modifiers) ? 1 : 0, 1);
        CHECK.due("final", Modifier.isFinal(modifiers) ? 1 : 0, 1);
        Constructor<?>[] constructors = ThreeTimes.class.getDeclaredConstructors();
        CHECK.due("constructors", constructors.length, 1);
        CHECK.due("public constructor", constructors[0].getModifiers(), Modifier.PUBLIC);
        CHECK.due("its parameters", constructors[0].getParameterCount(), 0);
        methods();
        for (Field field : ThreeTimes.class.getDeclaredFields()) {
            CHECK.due("private " + field.getName(), Modifier.isPrivate(field.getModifiers()) ? 1 : 0, 1);
        }
        Class<?>[] thrown = ThreeTimes.class.getMethod("element", int.class, int.class).getExceptionTypes();
        Class<?>[] told = {IllegalArgumentException.class, IllegalStateException.class};
        CHECK.due("element throws as told", Arrays.equals(thrown, told) ? 1 : 0, 1);
        CHECK.end();
    }

    private static void methods() {
        Set<String> missing = new TreeSet<>(Arrays.asList(FACE));
        Set<String> names = new TreeSet<>();
        for (String told : FACE) {
            names.add(told.substring(told.indexOf(' ') + 1, told.indexOf('(')));
        }
        for (Method method : ThreeTimes.class.getDeclaredMethods()) {
            if (Modifier.isPrivate(method.getModifiers())) {
                CHECK.due("a private " + method.getName(), names.contains(method.getName()) ? 1 : 0, 0);
            } else {
                CHECK.due("modifiers of " + method.getName(), method.getModifiers(), Modifier.PUBLIC);
                String parameters = Arrays.toString(method.getParameterTypes());
                String told = method.getReturnType() + " " + method.getName() + "("
                    + parameters.substring(1, parameters.length() - 1) + ")";
                CHECK.due("told " + told, missing.remove(told) ? 1 : 0, 1);
            }
        }
        for (String told : missing) {
            CHECK.due("there is " + told, 0, 1);
        }
    }
}
