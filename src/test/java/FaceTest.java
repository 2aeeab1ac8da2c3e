import java.lang.reflect.Constructor;
import java.lang.reflect.Field;
import java.lang.reflect.Method;
import java.lang.reflect.Modifier;
import java.util.Set;
import java.util.TreeSet;

/** The public face is the document's, with nothing more that others can see. */
public final class FaceTest {
    private static final Set<String> FACE = Set.of(
        "BAD = -1", "NO = -2", "FULL = -3", "WindingRaster(2)",
        "columns(0)", "rows(0)", "move(2)", "line(2)", "clear(0)", "winding(2)", "fill(2)", "clip(1)", "save(0)",
        "restore(0)", "gray(2)", "open(2)", "pixels(0)", "runs(0)", "count(2)", "flood(1)");

    private static Set<String> seen() throws IllegalAccessException {
        Set<String> seen = new TreeSet<>();
        for (Field field : WindingRaster.class.getDeclaredFields()) {
            if (Modifier.isPrivate(field.getModifiers())) {
                continue;
            }
            boolean constant = field.getModifiers() == (Modifier.PUBLIC | Modifier.STATIC | Modifier.FINAL);
            seen.add(constant ? field.getName() + " = " + field.getInt(null) : "the field " + field);
        }
        for (Constructor<?> made : WindingRaster.class.getDeclaredConstructors()) {
            seen.add("WindingRaster" + shapeOf(made.getModifiers(), made.getParameterTypes()));
        }
        for (Method method : WindingRaster.class.getDeclaredMethods()) {
            if (!Modifier.isPrivate(method.getModifiers())) {
                String shape = shapeOf(method.getModifiers(), method.getParameterTypes());
                seen.add(method.getName() + shape + (method.getReturnType() == int.class ? "" : " answers no int"));
            } else if (FACE.stream().anyMatch(member -> member.startsWith(method.getName() + "("))) {
                seen.add("a private " + method.getName());
            }
        }
        return seen;
    }

    private static String shapeOf(int modifiers, Class<?>[] parameters) {
        for (Class<?> parameter : parameters) {
            if (parameter != int.class) {
                return "(" + parameter.getName() + ")";
            }
        }
        return "(" + parameters.length + ")" + (modifiers == Modifier.PUBLIC ? "" : " is not plainly public");
    }

    public static void main(String[] args) throws IllegalAccessException {
        Set<String> due = new TreeSet<>(FACE);
        Set<String> seen = seen();
        boolean right = due.equals(seen) && WindingRaster.class.getModifiers() == (Modifier.PUBLIC | Modifier.FINAL);
        System.out.println(right ? "the face is as due" : "the face is " + seen + ", due is " + due);
        if (!right) {
            System.exit(1);
        }
    }
}
