import java.lang.reflect.Constructor;
import java.lang.reflect.Field;
import java.lang.reflect.Method;
import java.lang.reflect.Modifier;
import java.util.TreeSet;

/** The public face is that of the document, and nothing else of the class can be seen. */
public final class FaceTest {
    private static final String[] METHODS = {
        "public int setRings(int) throws IllegalArgumentException",
        "public int put(int,int) throws IndexOutOfBoundsException",
        "public boolean shut(int,int,boolean) throws IndexOutOfBoundsException,IllegalStateException",
        "public int turn(int,int) throws IndexOutOfBoundsException,IllegalArgumentException",
        "public int turnAll(int) throws IllegalArgumentException",
        "public int at(int,int)",
        "public int about(int,int) throws IndexOutOfBoundsException",
        "public int beside(int,int) throws IndexOutOfBoundsException",
        "public boolean isShut(int,int) throws IndexOutOfBoundsException,IllegalStateException",
        "public int far(int,int) throws IndexOutOfBoundsException",
        "public boolean sees(int,int) throws IndexOutOfBoundsException",
        "public int way(int,int) throws IndexOutOfBoundsException",
        "public int side(int,int) throws IndexOutOfBoundsException",
        "public int reach(int,int) throws IndexOutOfBoundsException,IllegalArgumentException",
        "public int ring(int,int) throws IndexOutOfBoundsException",
        "public int count(int) throws IndexOutOfBoundsException",
        "public int sixthsToSame()",
        "public int would(int,int) throws IndexOutOfBoundsException,IllegalArgumentException",
        "public int advise(int) throws IndexOutOfBoundsException",
        "public int best()",
        "public double mean()",
        "public long digest()",
    };

    public static void main(String[] args) {
        Checks.due("the class's modifiers", Modifier.toString(HexRooms.class.getModifiers()),
                "public final");
        Constructor<?>[] made = HexRooms.class.getDeclaredConstructors();
        Checks.due("the constructors", made.length, 1);
        Checks.due("the constructor", made[0].toString(), "public HexRooms()");
        TreeSet<String> due = new TreeSet<>();
        for (String method : METHODS) {
            due.add(method);
        }
        TreeSet<String> names = new TreeSet<>();
        TreeSet<String> seen = new TreeSet<>();
        for (Method method : HexRooms.class.getDeclaredMethods()) {
            if (!Modifier.isPrivate(method.getModifiers())) {
                seen.add(plain(method.toString()));
                names.add(method.getName());
            }
        }
        Checks.due("the methods", seen.toString(), due.toString());
        looksInto(HexRooms.class, names);
        for (Class<?> inside : HexRooms.class.getDeclaredClasses()) {
            Checks.due(inside + " can't be seen from outside",
                    inside.getModifiers() & (Modifier.PUBLIC | Modifier.PROTECTED), 0);
            looksInto(inside, names);
        }
        Checks.end();
    }

    /** Fields are private, static ones final, and no private method has a public one's name. */
    private static void looksInto(Class<?> its, TreeSet<String> names) {
        for (Field field : its.getDeclaredFields()) {
            int is = field.getModifiers();
            Checks.due(field + " is private", Modifier.isPrivate(is), true);
            Checks.due(field + " is final, if it is static",
                    !Modifier.isStatic(is) || Modifier.isFinal(is), true);
        }
        for (Method method : its.getDeclaredMethods()) {
            if (its != HexRooms.class || Modifier.isPrivate(method.getModifiers())) {
                Checks.due(method + " has a public one's name", names.contains(method.getName()),
                        false);
            }
        }
    }

    private static String plain(String method) {
        return method.replace("HexRooms.", "").replace("java.lang.", "");
    }
}
