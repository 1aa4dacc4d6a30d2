import java.lang.reflect.Constructor;
import java.lang.reflect.Field;
import java.lang.reflect.Method;
import java.lang.reflect.Modifier;
import java.util.Set;
import java.util.TreeSet;

/** The face of the class is the document's face, and nothing else of it can be seen. */
public final class FaceTest {
    private static final String[] FACE = {
        "about(int)", "append(int)", "bestClip()", "bestClips()", "bestWater()", "clearText()",
        "clip(int, int, int)", "errorPosition()", "gardener(int, int)", "goesOn(int, int)",
        "ifClipped(int, int, int, int)", "leaves(int)", "load()", "pass()", "plant(int, int)",
        "restore(int)", "runScript(int, long)", "save(int)", "set(int, int)", "setting(int)",
        "simulate(long, int)", "undo()", "water(int)", "wind(int)", "winner()", "worth()",
    };
    private static int wrong = 0;

    private static void check(boolean holds, String what) {
        if (!holds) {
            wrong++;
            System.out.println("does not hold: " + what);
        }
    }

    private static String nameOf(Method method) {
        StringBuilder name = new StringBuilder(method.getName()).append('(');
        for (Class<?> type : method.getParameterTypes()) {
            name.append(name.charAt(name.length() - 1) == '(' ? "" : ", ").append(type.getName());
        }
        return name.append(')').toString();
    }

    public static void main(String[] args) throws Exception {
        Class<HedgeClips> face = HedgeClips.class;
        check(face.getModifiers() == (Modifier.PUBLIC | Modifier.FINAL), "the class is public and final");
        Set<String> seen = new TreeSet<>();
        Set<String> names = new TreeSet<>();
        for (Method method : face.getDeclaredMethods()) {
            if (!Modifier.isPrivate(method.getModifiers())) {
                check(method.getModifiers() == Modifier.PUBLIC, method + " is public alone");
                check(method.getReturnType() == int.class, method + " returns an int");
                seen.add(nameOf(method));
                names.add(method.getName());
            }
        }
        check(seen.equals(new TreeSet<>(Set.of(FACE))), "the methods are those of the document, not " + seen);
        checkPrivateNames(face, names);
        for (Class<?> inside : face.getDeclaredClasses()) {
            check(Modifier.isStatic(inside.getModifiers()), inside + " is static");
            check(!Modifier.isPublic(inside.getModifiers()), inside + " is not public");
            checkPrivateNames(inside, names);
        }
        checkConstructors(face);
        checkFields(face);
        System.exit(wrong == 0 ? 0 : 1);
    }

    private static void checkPrivateNames(Class<?> type, Set<String> names) {
        for (Method method : type.getDeclaredMethods()) {
            if (type != HedgeClips.class || Modifier.isPrivate(method.getModifiers())) {
                check(!names.contains(method.getName()), method + " bears no name of the face");
            }
        }
    }

    private static void checkConstructors(Class<?> face) {
        Constructor<?>[] constructors = face.getDeclaredConstructors();
        check(constructors.length == 1, "there is one constructor");
        check(constructors[0].getParameterCount() == 0, "the constructor takes nothing");
        check(Modifier.isPublic(constructors[0].getModifiers()), "the constructor is public");
    }

    private static void checkFields(Class<?> face) throws Exception {
        for (Field field : face.getDeclaredFields()) {
            boolean isNone = field.getName().equals("NONE");
            check(isNone || Modifier.isPrivate(field.getModifiers()), field + " is private");
        }
        Field none = face.getField("NONE");
        check(none.getModifiers() == (Modifier.PUBLIC | Modifier.STATIC | Modifier.FINAL), "NONE is a constant");
        check(none.getInt(null) == -1, "NONE is -1");
    }
}
