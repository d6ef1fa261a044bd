import java.lang.reflect.Constructor;
import java.lang.reflect.Field;
import java.lang.reflect.Method;
import java.lang.reflect.Modifier;
import java.util.Set;
import java.util.TreeSet;

/** The public face and promise 1, a new object; rules 1 and 5 of LANGUAGE.md. */
public final class FaceTest {
    private static final String[] METHODS = {
        "int net()", "int gate(int,int,int,int)", "boolean delay(int,int,int)",
        "boolean spike(int)", "int drive(int,long,int)", "int force(int,long,int)",
        "int release(int,long)", "int check(int,int,int,int)", "int broken(int)", "long run(long)",
        "long now()", "int at(int,long)", "int value(int)", "int change(int,int)",
        "long counted(int)", "boolean unit(int)", "int read()", "int write(int)", "int levels()",
        "int save()", "boolean back(int)"
    };

    public static void main(String[] args) {
        Due due = new Due("FaceTest");
        face(due);
        newObject(due);
        due.end();
    }

    private static void face(Due due) {
        due.is("the class is public and final", Modifier.toString(EventWaves.class.getModifiers()), "public final");
        Set<String> open = new TreeSet<>();
        Set<String> openNames = new TreeSet<>();
        for (Method m : EventWaves.class.getDeclaredMethods()) {
            if (!Modifier.isPrivate(m.getModifiers()) && !m.isSynthetic()) {
                open.add(Modifier.toString(m.getModifiers()) + " " + shape(m));
                openNames.add(m.getName());
            }
        }
        Set<String> want = new TreeSet<>();
        for (String m : METHODS) {
            want.add("public " + m);
        }
        due.is("methods", open.toString(), want.toString());
        for (Method m : EventWaves.class.getDeclaredMethods()) {
            if (Modifier.isPrivate(m.getModifiers())) {
                due.is("a private " + m.getName(), openNames.contains(m.getName()), false);
            }
        }
        Constructor<?>[] makers = EventWaves.class.getDeclaredConstructors();
        due.is("constructors", makers.length, 1);
        due.is("public constructors", EventWaves.class.getConstructors().length, 1);
        for (Field f : EventWaves.class.getDeclaredFields()) {
            boolean isPublic = f.getName().equals("NONE");
            due.is(f.getName() + " is public", Modifier.isPublic(f.getModifiers()), isPublic);
            due.is(f.getName() + " is private", Modifier.isPrivate(f.getModifiers()), !isPublic);
            if (Modifier.isStatic(f.getModifiers())) {
                due.is(f.getName() + " is final", Modifier.isFinal(f.getModifiers()), true);
            }
        }
        due.is("NONE", EventWaves.NONE, -1);
    }

    private static String shape(Method m) {
        StringBuilder text = new StringBuilder(m.getReturnType() + " " + m.getName() + "(");
        for (Class<?> p : m.getParameterTypes()) {
            text.append(text.charAt(text.length() - 1) == '(' ? "" : ",").append(p);
        }
        return text.append(")").toString();
    }

    private static void newObject(Due due) {
        EventWaves x = new EventWaves();
        due.is("now of a new object", x.now(), 0);
        due.is("rule of a new object is 0 already", x.spike(0), false);
        due.is("kept changes", x.change(0, 3), 0);
        due.is("levels", x.levels(), 0);
        due.is("read of an empty tape", x.read(), 0);
        due.is("back to nothing", x.back(0), false);
        due.is("run of nothing", x.run(0), 0);
        due.refuses("value of no net", Due.INDEX, () -> x.value(0));
        due.refuses("broken of no check", Due.INDEX, () -> x.broken(0));
        due.refuses("delay of no gate", Due.INDEX, () -> x.delay(0, 1, 1) ? 1 : 0);
        due.refuses("write of no text", Due.INDEX, () -> x.write(0));
        due.is("its first net", x.net(), 0);
        due.is("its first gate", x.gate(0, 0, 0, 0), 0);
        due.is("its first check", x.check(0, 0, 0, 0), 0);
        due.is("its first save", x.save(), 0);
    }
}
