import java.lang.reflect.Constructor;
import java.lang.reflect.Field;
import java.lang.reflect.Method;
import java.lang.reflect.Modifier;
import java.util.Set;
import java.util.TreeSet;

/** The public face is the document's, with its constants, and all else is private. */
public final class FaceTest {
    private static final String PUBLIC_CONSTANT = "public static final ";
    private static final Check check = new Check();

    public static void main(String[] args) {
        constants();
        check.due("the class is public and final", QueueDrive.class.getModifiers(),
                Modifier.PUBLIC | Modifier.FINAL);
        check.same("members that are not private", seen().toString(), promised().toString());
        for (Class<?> inside : QueueDrive.class.getDeclaredClasses()) {
            check.due(inside + " is static", Modifier.isStatic(inside.getModifiers()) ? 1 : 0, 1);
        }
        check.end();
    }

    private static void constants() {
        check.due("DONE", QueueDrive.DONE, 0);
        check.due("REFUSED", QueueDrive.REFUSED, -1);
        check.due("FULL", QueueDrive.FULL, -2);
        check.due("BUSY", QueueDrive.BUSY, -3);
        check.due("NONE", QueueDrive.NONE, -1000000000000L);
    }

    private static Set<String> promised() {
        return new TreeSet<>(Set.of(
                PUBLIC_CONSTANT + "int QueueDrive.DONE",
                PUBLIC_CONSTANT + "int QueueDrive.REFUSED",
                PUBLIC_CONSTANT + "int QueueDrive.FULL",
                PUBLIC_CONSTANT + "int QueueDrive.BUSY",
                PUBLIC_CONSTANT + "long QueueDrive.NONE",
                "public QueueDrive(int)",
                "public int QueueDrive.submit(int,int,int,int,int)",
                "public int QueueDrive.step(int,int)",
                "public int QueueDrive.take(int)",
                "public long QueueDrive.result()",
                "public int QueueDrive.reset()",
                "public int QueueDrive.power()",
                "public int QueueDrive.powerDuring(int,int,int)",
                "public long QueueDrive.word(int)",
                "public long QueueDrive.flash(int)",
                "public int QueueDrive.queue(int,int)",
                "public int QueueDrive.unit(int,int)",
                "public int QueueDrive.count(int)"));
    }

    private static Set<String> seen() {
        Set<String> found = new TreeSet<>();
        for (Field field : QueueDrive.class.getDeclaredFields()) {
            add(found, field.getModifiers(), field.toString());
        }
        for (Constructor<?> constructor : QueueDrive.class.getDeclaredConstructors()) {
            add(found, constructor.getModifiers(), constructor.toString());
        }
        for (Method method : QueueDrive.class.getDeclaredMethods()) {
            add(found, method.getModifiers(), method.toString());
        }
        return found;
    }

    private static void add(Set<String> found, int modifiers, String member) {
        if (!Modifier.isPrivate(modifiers)) {
            found.add(member);
        }
    }
}
