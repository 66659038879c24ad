import java.lang.reflect.Constructor;
import java.lang.reflect.Field;
import java.lang.reflect.Method;
import java.lang.reflect.Modifier;
import java.util.TreeSet;

/** The public face, word for word, and nothing else that is visible (rule 1 of LANGUAGE.md). */
final class FaceTest {
    private static final String[] FACE = {
        "public ModeDesk()",
        "public boolean ModeDesk.armed(int) throws java.lang.IllegalArgumentException",
        "public int ModeDesk.channel(int,boolean) throws java.lang.IllegalArgumentException",
        "public int ModeDesk.disconnect()",
        "public int ModeDesk.engage()",
        "public int ModeDesk.kept(int,int)",
        "public int ModeDesk.measure(int) throws java.lang.IllegalArgumentException",
        "public int ModeDesk.mode(int) throws java.lang.IllegalArgumentException",
        "public int ModeDesk.press(int) throws java.lang.IllegalArgumentException",
        "public int ModeDesk.sense(int,int) throws java.lang.IllegalArgumentException",
        "public int ModeDesk.shown()",
        "public int ModeDesk.step(int) throws java.lang.IllegalArgumentException",
        "public static final int ModeDesk.NONE",
    };

    public static void main(String[] args) {
        TreeSet<String> want = new TreeSet<>();
        for (String member : FACE) {
            want.add(member);
        }
        Checks.due("the face", visible(), want);
        Checks.due("the class", Modifier.toString(ModeDesk.class.getModifiers()), "public final");
        for (Field field : ModeDesk.class.getDeclaredFields()) {
            int how = field.getModifiers();
            Checks.due(field + ": a static field that can change", Modifier.isStatic(how) && !Modifier.isFinal(how), false);
        }
        Checks.finish("FaceTest");
    }

    private static TreeSet<String> visible() {
        TreeSet<String> all = new TreeSet<>();
        for (Constructor<?> constructor : ModeDesk.class.getDeclaredConstructors()) {
            addUnlessPrivate(all, constructor.getModifiers(), constructor.toString());
        }
        for (Method method : ModeDesk.class.getDeclaredMethods()) {
            addUnlessPrivate(all, method.getModifiers(), method.toString());
        }
        for (Field field : ModeDesk.class.getDeclaredFields()) {
            addUnlessPrivate(all, field.getModifiers(), field.toString());
        }
        return all;
    }

    private static void addUnlessPrivate(TreeSet<String> all, int modifiers, String member) {
        if (!Modifier.isPrivate(modifiers)) {
            all.add(member);
        }
    }
}
