import java.lang.reflect.Constructor;
import java.lang.reflect.Field;
import java.lang.reflect.Method;
import java.lang.reflect.Modifier;
import java.util.Arrays;
import java.util.TreeSet;

/** The public face of the document, and nothing beside it that others could see. */
public final class FaceTest {
    private static final String[] FACE = {
        "public static final int NONE",
        "public ShapeRelator()",
        "public int shape(int,int) IndexOutOfBoundsException IllegalArgumentException",
        "public int part(int) IndexOutOfBoundsException IllegalStateException",
        "public int point(int,int,int) IndexOutOfBoundsException IllegalArgumentException IllegalStateException",
        "public int locate(int,int,int) IndexOutOfBoundsException IllegalArgumentException",
        "public int relate()",
        "public int entry(int,int) IndexOutOfBoundsException",
        "public boolean is(int) IndexOutOfBoundsException",
        "public int dimension(int) IndexOutOfBoundsException",
        "public int count(int,int) IndexOutOfBoundsException",
    };

    private static String list(Class<?>[] types, String between) {
        StringBuilder text = new StringBuilder();
        for (Class<?> type : types) {
            text.append(text.length() == 0 ? "" : between).append(type.getSimpleName());
        }
        return text.toString();
    }

    private static String tell(int modifiers, String what, Class<?>[] takes, Class<?>[] refuses) {
        return (Modifier.toString(modifiers) + " " + what + "(" + list(takes, ",") + ") " + list(refuses, " ")).trim();
    }

    private static TreeSet<String> visibleMembers() {
        TreeSet<String> members = new TreeSet<>();
        for (Field field : ShapeRelator.class.getDeclaredFields()) {
            if (!Modifier.isPrivate(field.getModifiers())) {
                members.add(Modifier.toString(field.getModifiers()) + " " + field.getType() + " " + field.getName());
            }
        }
        for (Constructor<?> c : ShapeRelator.class.getDeclaredConstructors()) {
            if (!Modifier.isPrivate(c.getModifiers())) {
                members.add(tell(c.getModifiers(), c.getName(), c.getParameterTypes(), c.getExceptionTypes()));
            }
        }
        for (Method m : ShapeRelator.class.getDeclaredMethods()) {
            if (!Modifier.isPrivate(m.getModifiers()) && !m.isSynthetic()) {
                members.add(tell(m.getModifiers(), m.getReturnType() + " " + m.getName(), m.getParameterTypes(),
                        m.getExceptionTypes()));
            }
        }
        return members;
    }

    public static void main(String[] args) {
        boolean wrong = false;
        TreeSet<String> want = new TreeSet<>(Arrays.asList(FACE));
        TreeSet<String> got = visibleMembers();
        if (!got.equals(want)) {
            wrong = true;
            System.out.println("the face is " + got + ", due is " + want);
        }
        int modifiers = ShapeRelator.class.getModifiers();
        if (!Modifier.isPublic(modifiers) || !Modifier.isFinal(modifiers)) {
            wrong = true;
            System.out.println("the class is not public and final");
        }
        for (Class<?> inside : ShapeRelator.class.getDeclaredClasses()) {
            int seen = inside.getModifiers();
            if (Modifier.isPublic(seen) || Modifier.isProtected(seen) || !Modifier.isStatic(seen)) {
                wrong = true;
                System.out.println(inside + " can be seen or is not static");
            }
        }
        System.out.println(wrong ? "the face is not as due" : "the face is as due");
        if (wrong) {
            System.exit(1);
        }
    }
}
