import java.lang.reflect.Constructor;
import java.lang.reflect.Field;
import java.lang.reflect.Method;
import java.lang.reflect.Modifier;
import java.util.HashSet;
import java.util.Set;
import java.util.TreeSet;

/** The public face is the document's, and nothing else of the class can be seen. */
public final class FaceTest {
    private static final Due DUE = new Due("FaceTest");
    private static final String[] FACE = {
        "int type(int, int)", "int wipe(int)", "int undo(int)", "int fault(int)", "int bush(int, int)",
        "int look(int, int)", "int set(int, int)", "int event(int, int, int)", "int back()", "int read(int)",
        "int at(int, int, int)", "int hill(int, int)", "int bare()", "int run()", "int fake()", "int last(int)",
        "int plant(int)", "int send(int)", "int save(int)", "int deal(int)", "int seen(int, int, int)",
        "int forget()", "int never()", "int was(int, int)", "int ask(int)", "long luck(int, int, int)",
        "int century(int, int, int)", "int sheet(int, int, int)", "int lose(int)", "int lay(int, int, int, int)",
        "int get(int, int, int)", "int copy(int, int, int, int, int)", "int write(int)", "int count(int)",
        "long digest()"};

    public static void main(String[] args) {
        constants();
        methods();
        fields();
        privateNames();
        DUE.end();
    }

    private static void constants() {
        DUE.is("NONE", GorseGold.NONE, -1);
        DUE.is("BAD", GorseGold.BAD, -2);
        DUE.is("NOT", GorseGold.NOT, -3);
        DUE.is("FULL", GorseGold.FULL, -4);
        DUE.holds("the class is public and final",
            GorseGold.class.getModifiers() == (Modifier.PUBLIC | Modifier.FINAL));
        Constructor<?>[] made = GorseGold.class.getDeclaredConstructors();
        DUE.is("constructors", made.length, 1);
        DUE.holds("it is public and takes nothing",
            Modifier.isPublic(made[0].getModifiers()) && made[0].getParameterCount() == 0);
    }

    private static void methods() {
        Set<String> want = new TreeSet<>(Set.of(FACE));
        Set<String> got = new TreeSet<>();
        for (Method m : GorseGold.class.getDeclaredMethods()) {
            if (!Modifier.isPrivate(m.getModifiers())) {
                got.add(told(m));
                DUE.holds(told(m) + " is public and of the object", m.getModifiers() == Modifier.PUBLIC);
            }
        }
        DUE.holds("the methods are " + want + ", not " + got, want.equals(got));
    }

    private static String told(Method m) {
        StringBuilder s = new StringBuilder(m.getReturnType() + " " + m.getName() + "(");
        for (Class<?> p : m.getParameterTypes()) {
            s.append(s.charAt(s.length() - 1) == '(' ? "" : ", ").append(p);
        }
        return s.append(")").toString();
    }

    private static void fields() {
        Set<String> open = new TreeSet<>();
        for (Field f : GorseGold.class.getDeclaredFields()) {
            if (!Modifier.isPrivate(f.getModifiers())) {
                open.add(f.getName());
            }
            if (Modifier.isStatic(f.getModifiers())) {
                DUE.holds("static " + f.getName() + " is final", Modifier.isFinal(f.getModifiers()));
            }
        }
        DUE.holds("open fields are the constants: " + open, open.equals(Set.of("NONE", "BAD", "NOT", "FULL")));
    }

    private static void privateNames() {
        Set<String> names = new HashSet<>();
        for (String face : FACE) {
            names.add(face.substring(face.indexOf(' ') + 1, face.indexOf('(')));
        }
        for (Class<?> inside : GorseGold.class.getDeclaredClasses()) {
            DUE.holds(inside + " is static", Modifier.isStatic(inside.getModifiers()));
            DUE.holds(inside + " is private", Modifier.isPrivate(inside.getModifiers()));
            for (Method m : inside.getDeclaredMethods()) {
                DUE.holds(inside + " has " + m.getName(), !names.contains(m.getName()));
            }
        }
        for (Method m : GorseGold.class.getDeclaredMethods()) {
            if (Modifier.isPrivate(m.getModifiers())) {
                DUE.holds("private " + m.getName(), !names.contains(m.getName()));
            }
        }
    }
}
