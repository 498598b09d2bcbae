import java.lang.reflect.Constructor;
import java.lang.reflect.Field;
import java.lang.reflect.Method;
import java.lang.reflect.Modifier;
import java.util.Set;
import java.util.TreeSet;

/** What others can see of the class is the document's face, and nothing else. */
public final class FaceTest {
    private static final String[] FACE = {
        "int ask(int,int,int) IndexOutOfBoundsException IllegalArgumentException IllegalStateException",
        "int asks(int,int,int) IndexOutOfBoundsException",
        "int best(int) IllegalArgumentException",
        "int build(int,int,int) IllegalArgumentException IllegalStateException",
        "int count(int) IndexOutOfBoundsException",
        "long digest()",
        "int door(int,int) IndexOutOfBoundsException",
        "double mean()",
        "int opens(int) IndexOutOfBoundsException",
        "int pass(int) IllegalArgumentException",
        "int reach(int) IndexOutOfBoundsException",
        "int set(int,int,int) IndexOutOfBoundsException IllegalArgumentException",
        "int voice(int,int) IndexOutOfBoundsException",
        "boolean whisper(int,int) IndexOutOfBoundsException IllegalArgumentException",
        "int would(int,int) IndexOutOfBoundsException IllegalArgumentException",
        "VaultDoors()",
    };

    private static String typesOf(Class<?>[] types, String between) {
        StringBuilder text = new StringBuilder();
        for (Class<?> type : types) {
            text.append(text.length() == 0 ? "" : between).append(type.getSimpleName());
        }
        return text.toString();
    }

    private static String faceOf(Method method) {
        String text = method.getReturnType().getSimpleName() + " " + method.getName() + "("
            + typesOf(method.getParameterTypes(), ",") + ") "
            + typesOf(method.getExceptionTypes(), " ");
        return text.trim();
    }

    private static Set<String> seenFace() {
        Set<String> seen = new TreeSet<>();
        for (Method method : VaultDoors.class.getDeclaredMethods()) {
            if (!Modifier.isPrivate(method.getModifiers()) && !method.isSynthetic()) {
                boolean plain = method.getModifiers() == Modifier.PUBLIC;
                seen.add(faceOf(method) + (plain ? "" : " is not just public"));
            }
        }
        for (Constructor<?> constructor : VaultDoors.class.getDeclaredConstructors()) {
            if (!Modifier.isPrivate(constructor.getModifiers())) {
                seen.add("VaultDoors(" + typesOf(constructor.getParameterTypes(), ",") + ")");
            }
        }
        for (Field field : VaultDoors.class.getDeclaredFields()) {
            if (!Modifier.isPrivate(field.getModifiers())) {
                seen.add("the field " + field.getName());
            }
        }
        return seen;
    }

    public static void main(String[] args) {
        Set<String> due = new TreeSet<>(Set.of(FACE));
        Set<String> seen = seenFace();
        boolean shape = Modifier.isPublic(VaultDoors.class.getModifiers())
            && Modifier.isFinal(VaultDoors.class.getModifiers());
        if (!seen.equals(due) || !shape) {
            System.out.println("the face is " + seen + ", due is " + due
                + (shape ? "" : "; the class is not public and final"));
            System.exit(1);
        }
        System.out.println("the face is as due");
    }
}
