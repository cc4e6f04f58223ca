import java.lang.reflect.Constructor;
import java.lang.reflect.Field;
import java.lang.reflect.Method;
import java.lang.reflect.Modifier;
import java.util.Arrays;
import java.util.TreeSet;

/** The public face, and no member beside it that another class could see. */
final class FaceTest {
    private static final String[] FACE = {
        "boolean foretell(int, int, int)",
        "boolean wind(int, int, int)",
        "int braced(int)",
        "int feed(long, long, long)",
        "int hand(int, int)",
        "int leg(int)",
        "int look(int)",
        "int minutes(int)",
        "int orders()",
        "int plan(int, int)",
        "int rope(int, int)",
        "int sail(int, int)",
    };

    public static void main(String[] args) {
        Check check = new Check("FaceTest");
        check.due("public final", Modifier.isPublic(TallShip.class.getModifiers())
            && Modifier.isFinal(TallShip.class.getModifiers()), true);
        methods(check);
        fields(check);
        constructors(check);
        for (Class<?> inside : TallShip.class.getDeclaredClasses()) {
            check.due(inside + " is static", Modifier.isStatic(inside.getModifiers()), true);
            check.due(inside + " is public", Modifier.isPublic(inside.getModifiers()), false);
        }
        check.end();
    }

    private static void methods(Check check) {
        TreeSet<String> seen = new TreeSet<>();
        for (Method m : TallShip.class.getDeclaredMethods()) {
            if (Modifier.isPublic(m.getModifiers())) {
                String takes = Arrays.toString(m.getParameterTypes());
                seen.add(m.getReturnType() + " " + m.getName() + "("
                    + takes.substring(1, takes.length() - 1) + ")");
            } else {
                check.due(m + " is private", Modifier.isPrivate(m.getModifiers()), true);
            }
        }
        // The language's rule 1, which holds for the classes inside as well.
        for (Method m : TallShip.class.getDeclaredMethods()) {
            check.due(m + " bears a public name", Modifier.isPrivate(m.getModifiers()) && isOfFace(m), false);
        }
        for (Class<?> inside : TallShip.class.getDeclaredClasses()) {
            for (Method m : inside.getDeclaredMethods()) {
                check.due(m + " bears a public name", isOfFace(m), false);
            }
        }
        check.due("the methods " + seen, seen.equals(new TreeSet<>(Arrays.asList(FACE))), true);
    }

    private static boolean isOfFace(Method m) {
        return Arrays.stream(FACE).anyMatch(face -> face.contains(" " + m.getName() + "("));
    }

    private static void fields(Check check) {
        check.due("NONE", TallShip.NONE, -1);
        for (Field f : TallShip.class.getDeclaredFields()) {
            boolean open = !Modifier.isPrivate(f.getModifiers());
            check.due(f + " is open", open, f.getName().equals("NONE"));
        }
    }

    private static void constructors(Check check) {
        Constructor<?>[] all = TallShip.class.getDeclaredConstructors();
        check.due("constructors", all.length, 1);
        check.due("a public one", Modifier.isPublic(all[0].getModifiers()), true);
        check.due("of an int", Arrays.equals(all[0].getParameterTypes(), new Class<?>[] {int.class}), true);
    }
}
