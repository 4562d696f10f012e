import java.lang.reflect.Constructor;
import java.lang.reflect.Field;
import java.lang.reflect.Method;
import java.lang.reflect.Modifier;
import java.util.List;
import java.util.TreeSet;

/** The class has the document's face, and nothing else that can be seen from outside. */
public final class FaceTest {
    private static final List<String> FACE = List.of(
            "public static final int RumourCircle.NONE",
            "public static final int RumourCircle.ALIVE",
            "public static final int RumourCircle.SUSPECT",
            "public static final int RumourCircle.FAULTY",
            "public RumourCircle(int)",
            "public int RumourCircle.period(int)",
            "public int RumourCircle.help(int)",
            "public int RumourCircle.deliver(int)",
            "public boolean RumourCircle.lose(int)",
            "public int RumourCircle.round()",
            "public boolean RumourCircle.stop(int)",
            "public boolean RumourCircle.isUp(int)",
            "public int RumourCircle.status(int,int)",
            "public int RumourCircle.incarnation(int,int)",
            "public int RumourCircle.timer(int,int)",
            "public int RumourCircle.probe(int)",
            "public int RumourCircle.sent(int,int)",
            "public int RumourCircle.flying()",
            "public int RumourCircle.message(int)",
            "public long RumourCircle.news(int,int)",
            "public int RumourCircle.declared(int)",
            "public int RumourCircle.doubted()");

    public static void main(String[] args) {
        Check check = new Check();
        check.part("the face");
        check.due("the class", Modifier.toString(RumourCircle.class.getModifiers()), "public final");
        TreeSet<String> seen = new TreeSet<>();
        for (Field field : RumourCircle.class.getDeclaredFields()) {
            addIfSeen(seen, field.getModifiers(), field.toString());
            boolean changes = Modifier.isStatic(field.getModifiers()) && !Modifier.isFinal(field.getModifiers());
            check.due("static state in " + field.getName(), changes, false);
        }
        for (Constructor<?> constructor : RumourCircle.class.getDeclaredConstructors()) {
            addIfSeen(seen, constructor.getModifiers(), constructor.toString());
        }
        for (Method method : RumourCircle.class.getDeclaredMethods()) {
            addIfSeen(seen, method.getModifiers(), method.toString());
        }
        check.due("what is seen", String.join("\n  ", seen), String.join("\n  ", new TreeSet<>(FACE)));
        for (Class<?> inside : RumourCircle.class.getDeclaredClasses()) {
            int hidden = Modifier.STATIC | Modifier.PUBLIC | Modifier.PROTECTED;
            check.due(inside.getName() + " is static and not seen", inside.getModifiers() & hidden, Modifier.STATIC);
        }
        check.due("NONE", RumourCircle.NONE, -1);
        check.due("ALIVE", RumourCircle.ALIVE, 0);
        check.due("SUSPECT", RumourCircle.SUSPECT, 1);
        check.due("FAULTY", RumourCircle.FAULTY, 2);
        check.end();
    }

    private static void addIfSeen(TreeSet<String> seen, int modifiers, String member) {
        if (!Modifier.isPrivate(modifiers)) {
            seen.add(member);
        }
    }
}
