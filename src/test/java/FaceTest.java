import java.lang.reflect.Constructor;
import java.lang.reflect.Field;
import java.lang.reflect.Method;
import java.lang.reflect.Modifier;
import java.util.ArrayList;
import java.util.Collections;
import java.util.List;
import java.util.Set;
import java.util.TreeSet;

/** The public face, and the room that an object and its calls take. */
public final class FaceTest {
    private static final List<String> METHODS = List.of(
            "int about(int)", "int again(int)", "int bear(int,int)", "int best(int,boolean,boolean)",
            "int borrow(int)", "int breakTie(int)", "int cut(int)", "int die(int)", "int ever(int)",
            "int families(int)", "int fault()", "int heir(int,int)", "int keep(int)", "int land()",
            "int lender(int,int,boolean)", "int line(int,int,int)", "int next(int)", "int odds(int,boolean)",
            "int person(int,int)", "int rests(int,int)", "int tens()", "int ties(int,int,int)", "int undo()",
            "int wipe()", "int write(int)", "long seed(long)");
    private static final int MOST_OBJECTS = 120;
    private static final int MOST_ELEMENTS = 2000;

    private FaceTest() {
    }

    public static void main(String[] args) throws IllegalAccessException {
        face();
        room();
        Due.end();
    }

    private static void face() {
        Class<?> c = EntailedLand.class;
        Due.holds("public and final", Modifier.isPublic(c.getModifiers()) && Modifier.isFinal(c.getModifiers()));
        List<String> methods = new ArrayList<>();
        Set<String> open = new TreeSet<>();
        for (Method m : c.getDeclaredMethods()) {
            if (!Modifier.isPrivate(m.getModifiers())) {
                methods.add(told(m));
                open.add(m.getName());
                Due.holds(m + " is public, no static one", m.getModifiers() == Modifier.PUBLIC);
            }
        }
        Collections.sort(methods);
        Due.holds("methods " + methods, methods.equals(METHODS));
        for (Class<?> in : everyClass(c)) {
            for (Method m : in.getDeclaredMethods()) {
                boolean same = in == c && !Modifier.isPrivate(m.getModifiers());
                Due.holds(m + " bears a public one's name", same || !open.contains(m.getName()));
            }
        }
        Constructor<?>[] made = c.getDeclaredConstructors();
        Due.is("constructors", made.length, 1);
        Due.holds("the constructor", Modifier.isPublic(made[0].getModifiers()) && made[0].getParameterCount() == 0);
        Set<String> constants = new TreeSet<>();
        for (Field f : c.getDeclaredFields()) {
            if (!Modifier.isPrivate(f.getModifiers())) {
                constants.add(f.getName());
            }
        }
        Due.holds("constants " + constants, constants.equals(Set.of("UNKNOWN", "BAD", "LATE", "FULL", "NONE")));
        Due.is("UNKNOWN", EntailedLand.UNKNOWN, -1);
        Due.is("BAD", EntailedLand.BAD, -2);
        Due.is("LATE", EntailedLand.LATE, -3);
        Due.is("FULL", EntailedLand.FULL, -4);
        Due.is("NONE", EntailedLand.NONE, -9);
    }

    private static String told(Method m) {
        StringBuilder s = new StringBuilder(m.getReturnType().getName()).append(' ').append(m.getName()).append('(');
        for (int k = 0; k < m.getParameterCount(); k++) {
            s.append(k == 0 ? "" : ",").append(m.getParameterTypes()[k].getName());
        }
        return s.append(')').toString();
    }

    private static List<Class<?>> everyClass(Class<?> c) {
        List<Class<?>> all = new ArrayList<>(List.of(c));
        all.addAll(List.of(c.getDeclaredClasses()));
        return all;
    }

    /** One object is made once, and its calls make nothing. */
    private static void room() throws IllegalAccessException {
        List<Object> found = new ArrayList<>(List.of(new EntailedLand()));
        long elements = 0;
        for (int at = 0; at < found.size(); at++) {
            elements += look(found.get(at), found);
        }
        Due.holds("objects: " + found.size(), found.size() <= MOST_OBJECTS);
        Due.holds("elements: " + elements, elements <= MOST_ELEMENTS);
        EntailedLand x = Due.land("T19P009P017P016P105P104P203P202");
        com.sun.management.ThreadMXBean bean =
                (com.sun.management.ThreadMXBean) java.lang.management.ManagementFactory.getThreadMXBean();
        long id = Thread.currentThread().getId();
        dearCalls(x);
        long before = bean.getThreadAllocatedBytes(id);
        for (int k = 0; k < 500; k++) {
            dearCalls(x);
        }
        long made = bean.getThreadAllocatedBytes(id) - before;
        Due.holds("bytes made by calls: " + made, made < 10000);
    }

    private static void dearCalls(EntailedLand x) {
        x.odds(6, true);
        x.families(20);
        x.ties(4, 1234, 6);
        x.best(4, true, true);
        x.next(3);
        x.ever(2);
        x.rests(4, 0);
        x.tens();
        x.keep(0);
        x.again(0);
        x.fault();
    }

    private static int look(Object o, List<Object> found) throws IllegalAccessException {
        if (o instanceof int[] row) {
            return row.length;
        }
        if (o instanceof boolean[] row) {
            return row.length;
        }
        int fields = 0;
        if (o instanceof Object[] row) {
            for (Object part : row) {
                add(part, found);
            }
            return row.length;
        }
        for (Field f : o.getClass().getDeclaredFields()) {
            if (!Modifier.isStatic(f.getModifiers())) {
                fields++;
                f.setAccessible(true);
                if (!f.getType().isPrimitive()) {
                    add(f.get(o), found);
                }
            }
        }
        return fields;
    }

    private static void add(Object part, List<Object> found) {
        for (Object known : found) {
            if (known == part) {
                return;
            }
        }
        if (part != null) {
            found.add(part);
        }
    }
}
