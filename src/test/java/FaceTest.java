import java.lang.reflect.Constructor;
import java.lang.reflect.Field;
import java.lang.reflect.Method;
import java.lang.reflect.Modifier;
import java.util.ArrayList;
import java.util.Arrays;
import java.util.List;
import java.util.TreeSet;

/** The class has the document's face and no other member that can be seen from outside. */
public final class FaceTest {
    private static final String[] FACE = {
        "int setTile(int,int,int) IndexOutOfBoundsException IllegalArgumentException IllegalStateException",
        "int tile(int,int) IndexOutOfBoundsException",
        "int addBody(int,int,int,int) IllegalArgumentException IllegalStateException",
        "int removeBody(int) IndexOutOfBoundsException",
        "int body(int,int) IndexOutOfBoundsException IllegalArgumentException",
        "int press(int,int) IndexOutOfBoundsException IllegalArgumentException",
        "int push(int,int,int) IndexOutOfBoundsException IllegalArgumentException",
        "int addPlatform(int,int,int,int,int,int) IllegalArgumentException IllegalStateException",
        "int removePlatform(int) IndexOutOfBoundsException",
        "int platform(int,int) IndexOutOfBoundsException IllegalArgumentException",
        "int count(int) IllegalArgumentException",
        "int set(int,int) IndexOutOfBoundsException IllegalArgumentException",
        "int tick(int) IllegalArgumentException",
        "int tickUntilStanding(int,int) IndexOutOfBoundsException IllegalArgumentException NoSuchElementException",
        "int undo() IllegalStateException",
        "int clock()",
        "int support(int) IndexOutOfBoundsException",
        "boolean stands(int) IndexOutOfBoundsException",
        "int below(int) IndexOutOfBoundsException",
        "boolean isBlocked(int,int,int) IndexOutOfBoundsException IllegalArgumentException",
        "int clearance(int,int) IndexOutOfBoundsException IllegalArgumentException",
        "int drop(int) IndexOutOfBoundsException",
        "int look(int,int) IllegalArgumentException",
        "int ray(int,int,int) IllegalArgumentException",
        "int predict(int,int,int,int) IndexOutOfBoundsException IllegalArgumentException",
        "int apex(int,int,int) IndexOutOfBoundsException IllegalArgumentException",
        "int statistic(int,int) IndexOutOfBoundsException IllegalArgumentException",
        "float meanMoves(int) IndexOutOfBoundsException ArithmeticException",
        "void append(char) IllegalStateException",
        "int readTiles(int,int) IndexOutOfBoundsException IllegalArgumentException IllegalStateException",
        "int play(int) IndexOutOfBoundsException IllegalArgumentException UnsupportedOperationException",
        "int faultPosition()",
        "void save()",
        "void restore() IllegalStateException",
    };

    private static int wrong = 0;

    private static void check(boolean holds, String what) {
        if (!holds) {
            wrong++;
            System.out.println("FaceTest: " + what);
        }
    }

    private static String simple(Class<?>[] types, String joint) {
        List<String> names = new ArrayList<>();
        for (Class<?> type : types) {
            names.add(type.getSimpleName());
        }
        return String.join(joint, names);
    }

    public static void main(String[] args) {
        int modifiers = TileRunners.class.getModifiers();
        check(Modifier.isPublic(modifiers) && Modifier.isFinal(modifiers), "the class is public and final");
        TreeSet<String> seen = new TreeSet<>();
        TreeSet<String> publicNames = new TreeSet<>();
        List<Method> hidden = new ArrayList<>();
        for (Method method : TileRunners.class.getDeclaredMethods()) {
            if (Modifier.isPrivate(method.getModifiers())) {
                hidden.add(method);
                continue;
            }
            check(Modifier.isPublic(method.getModifiers()) && !Modifier.isStatic(method.getModifiers()),
                    method + " is a public method of objects");
            publicNames.add(method.getName());
            String thrown = simple(method.getExceptionTypes(), " ");
            seen.add(method.getReturnType().getSimpleName() + " " + method.getName() + "("
                    + simple(method.getParameterTypes(), ",") + ")" + (thrown.isEmpty() ? "" : " " + thrown));
        }
        check(seen.equals(new TreeSet<>(Arrays.asList(FACE))), "the methods are " + seen);
        for (Method method : hidden) {
            check(!publicNames.contains(method.getName()), "private " + method + " bears a public name");
        }
        for (Field field : TileRunners.class.getDeclaredFields()) {
            check(Modifier.isPrivate(field.getModifiers()), field + " is private");
        }
        Constructor<?>[] constructors = TileRunners.class.getDeclaredConstructors();
        check(constructors.length == 1 && Modifier.isPublic(constructors[0].getModifiers())
                && constructors[0].getParameterCount() == 0, "one public constructor without parameters");
        System.out.println(wrong == 0 ? "the face is as due" : wrong + " faults of the face");
        if (wrong != 0) {
            System.exit(1);
        }
    }
}
