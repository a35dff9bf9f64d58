import java.lang.reflect.Constructor;
import java.lang.reflect.Field;
import java.lang.reflect.Method;
import java.lang.reflect.Modifier;
import java.util.Set;
import java.util.TreeSet;

/** The public face is that of the document, and nothing else can be seen from outside. */
public final class FaceTest {
    private static final String[] FACE = {
        "append(int) BS", "clearText()", "errorPosition()", "load() S", "about(int) B",
        "key(int,int,int) IB", "record(int,int) IB", "device(int,int) IB",
        "trace(int,int,int) IB", "wentWrong(int,int) I", "common(int,int,int,int) I",
        "accepted(int,int) I", "enter(int,int,int) IBS", "teach(int,int,int,int) IBS",
        "erase(int,int) I", "press(int,int) IS", "addDevice(int,int,int) IBS",
        "setTolerance(int,int) IB", "set(int,int) B", "undo() S", "wouldBe(int,int,int) I",
        "handed(int,int,int) I", "bestTeacher(int,int) I", "leastTolerance(int) I",
        "runScript(int,long) B", "simulate(int,int,long,int) IB", "save(int) I",
        "restore(int) IS"};

    public static void main(String[] args) {
        Set<String> found = new TreeSet<>();
        Set<String> names = new TreeSet<>();
        for (Method m : TaughtRemotes.class.getDeclaredMethods()) {
            if (!Modifier.isPrivate(m.getModifiers()) && !m.isSynthetic()) {
                Due.same("public int", Modifier.toString(m.getModifiers()) + " " + m.getReturnType(),
                        m.getName());
                found.add(told(m));
                names.add(m.getName());
            }
        }
        Due.same(new TreeSet<>(Set.of(FACE)).toString(), found.toString(), "the face");
        for (Method m : TaughtRemotes.class.getDeclaredMethods()) {
            if (Modifier.isPrivate(m.getModifiers())) {
                Due.same("false", "" + names.contains(m.getName()), "a private " + m.getName());
            }
        }
        Due.same("public final", Modifier.toString(TaughtRemotes.class.getModifiers()), "class");
        Constructor<?>[] made = TaughtRemotes.class.getConstructors();
        Due.same("1", "" + made.length, "public constructors");
        Due.same("0", "" + made[0].getParameterCount(), "its parameters");
        Due.same("1", "" + TaughtRemotes.class.getDeclaredConstructors().length, "constructors");
        fields();
        Due.end("FaceTest");
    }

    private static void fields() {
        for (Field f : TaughtRemotes.class.getDeclaredFields()) {
            boolean hidden = Modifier.isPrivate(f.getModifiers());
            Due.same("" + !f.getName().equals("NONE"), "" + hidden, "private " + f.getName());
            if (Modifier.isStatic(f.getModifiers())) {
                Due.same("true", "" + Modifier.isFinal(f.getModifiers()), "final " + f.getName());
            }
        }
        Due.same("-9", "" + TaughtRemotes.NONE, "NONE");
    }

    private static String told(Method m) {
        StringBuilder told = new StringBuilder(m.getName()).append('(');
        String between = "";
        for (Class<?> p : m.getParameterTypes()) {
            told.append(between).append(p.getName());
            between = ",";
        }
        told.append(')');
        between = " ";
        for (Class<?> e : m.getExceptionTypes()) {
            told.append(between).append(letter(e));
            between = "";
        }
        return told.toString();
    }

    private static char letter(Class<?> e) {
        if (e == Due.NO_PLACE) {
            return 'I';
        }
        if (e == Due.BAD_ARGUMENT) {
            return 'B';
        }
        return e == Due.BAD_STATE ? 'S' : '?';
    }
}
