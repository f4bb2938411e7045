import java.lang.reflect.Constructor;
import java.lang.reflect.Method;
import java.lang.reflect.Modifier;
import java.util.Arrays;
import java.util.Map;
import java.util.TreeMap;

/** The public face is that of the document, and nothing else is to be seen: constants, constructor, methods, throws. */
public final class FaceTest {
    private static final String[] METHODS = {
        "void slot(int, int, int) X A S", "void face(int, int, int, int) X A S",
        "void item(int, int, int, int, int, int) X A S", "boolean bar(int, int, boolean) X",
        "int lot(int, int) X A S", "int stock(int, int) X", "int stockAnew(int, int) X", "int free(int, int) X",
        "int room(int) X", "int notice(int, int) X A S", "int receive(int, int, int) X A S", "int close(int) X S",
        "int others(int) X", "int putAway(int, int) X A S", "int refill()", "int order(int, boolean, int) A S",
        "int line(int, int, int) X A S", "int allocate()", "int lacks(int, int) X", "int held(int, int, int) X",
        "int wave(int, int) X A S", "int give(int, int) X S", "int pass(int) A", "int where(int) X", "int doing(int) X",
        "int tasks()", "int taskAt(int) X", "int standstills()", "int lose(int, int, int) X A", "int count(int, int) X",
        "int find(int, int, int) X A", "int boxes(int) X", "int boxAt(int, int) X", "int send(int) X S",
        "int sent(int, int) X", "int received(int, int) X", "int comeBack(int, int, int) X A S",
        "int judge(int, int, boolean) X A S", "int recall(int) X S", "int bill()"};

    public static void main(String[] args) throws Exception {
        Checks c = new Checks("FaceTest");
        constants(c);
        Class<?> kind = Warehouselore.class;
        c.due("it is public and final", Modifier.isPublic(kind.getModifiers()) && Modifier.isFinal(kind.getModifiers()), true);
        Constructor<?>[] made = kind.getDeclaredConstructors();
        c.due("constructors", made.length, 1);
        c.due("its constructor is public and takes nothing",
            Modifier.isPublic(made[0].getModifiers()) && made[0].getParameterCount() == 0, true);
        methods(c, kind);
        c.close();
    }

    private static void constants(Checks c) throws Exception {
        Map<String, Integer> want = new TreeMap<>(Map.of("NONE", -1, "DOCK", 18, "QUARANTINE", 19, "PUT", 0, "REFILL", 1,
            "PICK", 2, "OPEN", 0, "TAKEN", 1, "DONE", 2, "GONE", 3));
        for (var field : Warehouselore.class.getDeclaredFields()) {
            if (Modifier.isPrivate(field.getModifiers())) continue;
            c.due("the field " + field.getName() + " is of the face", want.containsKey(field.getName()), true);
            c.due(field.getName() + " is public static final int", field.getModifiers() == (Modifier.PUBLIC | Modifier.STATIC
                | Modifier.FINAL) && field.getType() == int.class, true);
            c.due(field.getName(), field.getInt(null), want.remove(field.getName()));
        }
        c.due("constants that are missing", want.size(), 0);
    }

    private static void methods(Checks c, Class<?> kind) {
        Map<String, Boolean> want = new TreeMap<>();
        for (String m : METHODS) want.put(m, true);
        Map<String, Boolean> names = new TreeMap<>();
        for (String m : METHODS) names.put(m.substring(m.indexOf(' ') + 1, m.indexOf('(')), true);
        for (Method m : kind.getDeclaredMethods()) {
            if (Modifier.isPrivate(m.getModifiers())) {
                c.due("the private " + m.getName() + " bears a public name", names.containsKey(m.getName()), false);
                continue;
            }
            c.due(told(m) + " is of the face", want.remove(told(m)) != null, true);
            c.due(m.getName() + " is public and no more", m.getModifiers(), Modifier.PUBLIC);
        }
        c.due("methods that are missing: " + want.keySet(), want.size(), 0);
    }

    private static String told(Method m) {
        StringBuilder b = new StringBuilder(m.getReturnType() + " " + m.getName());
        String types = Arrays.toString(m.getParameterTypes());
        b.append('(').append(types, 1, types.length() - 1).append(')');
        for (Class<?> e : m.getExceptionTypes())
            b.append(e == IndexOutOfBoundsException.class ? " X" : e == IllegalArgumentException.class ? " A"
                : e == IllegalStateException.class ? " S" : " " + e);
        return b.toString();
    }
}
