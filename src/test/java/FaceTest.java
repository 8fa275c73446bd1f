import java.lang.reflect.Constructor;
import java.lang.reflect.Field;
import java.lang.reflect.Method;
import java.lang.reflect.Modifier;
import java.util.Arrays;
import java.util.List;
import java.util.TreeSet;

/** The public face: its members, and no other that can be seen from outside. */
public final class FaceTest {
    private static final List<String> METHODS = List.of("act(4)", "told(2)", "run(2)", "ended(1)", "gave(0)",
            "place(1)", "box(1)", "boxed(1)", "same(2)", "out(1)", "count(1)", "clear(0)");

    public static void main(String[] args) {
        Checks checks = new Checks("FaceTest");
        checks.due("UNKNOWN", SideWork.UNKNOWN, -101);
        checks.due("OUTSIDE", SideWork.OUTSIDE, -102);
        checks.due("ROOM", SideWork.ROOM, -104);
        checks.due("is final", Modifier.isFinal(SideWork.class.getModifiers()) ? 1 : 0, 1);

        TreeSet<String> seen = new TreeSet<>();
        TreeSet<String> hidden = new TreeSet<>();
        for (Method method : SideWork.class.getDeclaredMethods()) {
            if (Modifier.isPublic(method.getModifiers())) {
                seen.add(method.getName() + "(" + method.getParameterCount() + ")");
                checks.due(method + " answers an int", method.getReturnType() == int.class ? 1 : 0, 1);
            } else {
                hidden.add(method.getName());
                checks.due(method + " is private", Modifier.isPrivate(method.getModifiers()) ? 1 : 0, 1);
            }
        }
        checks.due("methods " + seen, seen.equals(new TreeSet<>(METHODS)) ? 1 : 0, 1);
        for (String name : hidden) {
            checks.due(name + " is no public name", METHODS.stream().anyMatch(m -> m.startsWith(name + "(")) ? 1 : 0, 0);
        }
        Constructor<?>[] constructors = SideWork.class.getDeclaredConstructors();
        checks.due("constructors", constructors.length, 1);
        checks.due("its parameters", constructors[0].getParameterCount(), 0);
        int visible = 0;
        for (Field field : SideWork.class.getDeclaredFields()) {
            visible += Modifier.isPrivate(field.getModifiers()) ? 0 : 1;
        }
        checks.due("visible fields", visible, 3);
        long open = Arrays.stream(SideWork.class.getDeclaredClasses())
                .filter(c -> !Modifier.isStatic(c.getModifiers()) || Modifier.isPublic(c.getModifiers())).count();
        checks.due("classes inside that are public or not static", open, 0);
        checks.finish();
    }
}
