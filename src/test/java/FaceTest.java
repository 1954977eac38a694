import java.lang.management.ManagementFactory;
import java.lang.reflect.Field;
import java.lang.reflect.Member;
import java.lang.reflect.Method;
import java.lang.reflect.Modifier;
import java.util.Set;
import java.util.TreeSet;

/** The document's face, the room that a run takes, and that no call throws. */
public final class FaceTest {
    private static final String FACE = """
        street(int) cell(int,int,int) cellOf(int,int) rule(int,int) seed(int) person(int,int,int) personOf(int,int) beast(int,int)
        beastOf(int,int) moves(int,int,int) feed(long,int) read() says(int) fact(int,int) run(int) morning(int) odds(int,int,int)
        begin(int,int) door(int) limit(int) law(int,int) together(int) harm(int) prove(int) row(int,int) alterRow(int,int,int) judge()
        sheet(int,int,int) put(int,int,int) item(int,int,int) widths(int,int,int) shelf(int,int,int) taken(int,int) act(int,int,int)
        trace(int) many(int) keep() again()""";
    private static int wrong = 0;

    private static void hold(boolean holds, String what) {
        if (holds) return;
        wrong++;
        System.out.println("not so: " + what);
    }

    private static String signature(Method m) {
        StringBuilder s = new StringBuilder(m.getName()).append('(');
        for (int i = 0; i < m.getParameterCount(); i++) s.append(i > 0 ? "," : "").append(m.getParameterTypes()[i].getSimpleName());
        return s.append(')').toString();
    }

    private static boolean isHidden(Member m) { return Modifier.isPrivate(m.getModifiers()) || m.isSynthetic(); }

    private static void face() throws Exception {
        Set<String> due = new TreeSet<>(Set.of(FACE.trim().split("\\s+")));
        Set<String> names = new TreeSet<>(), found = new TreeSet<>();
        for (String each : due) names.add(each.substring(0, each.indexOf('(')));
        Class<BullStreet> c = BullStreet.class;
        hold(due.size() == 38, "38 methods are written here, not " + due.size());
        hold(Modifier.isPublic(c.getModifiers()) && Modifier.isFinal(c.getModifiers()), "the class is public and final");
        for (Method m : c.getDeclaredMethods()) {
            if (isHidden(m)) {
                hold(!names.contains(m.getName()), "no private method is named " + m.getName());
                continue;
            }
            hold(Modifier.isPublic(m.getModifiers()) && !Modifier.isStatic(m.getModifiers()) && m.getReturnType() == int.class, "public int " + m);
            found.add(signature(m));
        }
        hold(found.equals(due), "the methods are the document's: " + found);
        hold(c.getDeclaredConstructors().length == 1 && c.getConstructors().length == 1 && c.getConstructors()[0].getParameterCount() == 0, "one constructor");
        Set<String> constants = new TreeSet<>();
        for (Field f : c.getDeclaredFields()) if (!isHidden(f)) constants.add(Modifier.toString(f.getModifiers()) + " " + f.getName() + " " + f.getInt(null));
        hold(constants.equals(Set.of("public static final BAD -1", "public static final FULL -2", "public static final NONE -3",
            "public static final STATE -4")), "the constants are the document's: " + constants);
        hold(c.getDeclaredClasses().length <= 12, "some twelve classes");
        for (Class<?> inner : c.getDeclaredClasses()) {
            hold(Modifier.isStatic(inner.getModifiers()) && !Modifier.isPublic(inner.getModifiers()), inner + " is static and not public");
            for (Method m : inner.getDeclaredMethods()) hold(!names.contains(m.getName()), "no inner method is named " + m.getName());
        }
    }

    /** 512 of the calls that make most: far below the 600,000 objects and 7.3 million elements that a run may take. */
    private static void room() {
        com.sun.management.ThreadMXBean threads = (com.sun.management.ThreadMXBean) ManagementFactory.getThreadMXBean();
        BullStreet warm = new BullStreet();
        warm.read();
        warm.sheet(0, 3, 40);
        long before = threads.getCurrentThreadAllocatedBytes();
        BullStreet x = new BullStreet();
        for (int i = 0; i < 20; i++) x.person(1 + i % 7, i % 10, 1 + i % 3);
        for (int i = 0; i < 6; i++) x.beast(i, 1 + i % 4);
        long made = threads.getCurrentThreadAllocatedBytes();
        for (int i = 0; i < 64; i++) {
            x.odds(0, 60, 0);
            x.begin(0, 60);
            x.door(60);
            x.limit(60);
            x.prove(60);
            x.judge();
        }
        long tried = threads.getCurrentThreadAllocatedBytes();
        for (int i = 0; i < 512; i++) x.read();
        long read = threads.getCurrentThreadAllocatedBytes();
        hold(made - before < 40_000, "a new object takes " + (made - before) + " bytes");
        hold(tried - made < 4_000, "trials take " + (tried - made) + " bytes");
        hold(read - tried < 400_000, "512 readings take " + (read - tried) + " bytes");
    }

    /** Edge numbers for every argument, in a street that is full and in one that is not: nothing may be thrown. */
    private static void neverThrows() throws Exception {
        int[] edges = {Integer.MIN_VALUE, -1, 0, 1, 2, 3, 4, 5, 7, 8, 9, 10, 20, 29, 30, 40, 60, 61, 200, Integer.MAX_VALUE - 1, Integer.MAX_VALUE};
        for (Method m : BullStreet.class.getMethods()) {
            if (m.getDeclaringClass() != BullStreet.class) continue;
            BullStreet x = new BullStreet();
            if (m.getName().compareTo("m") < 0) {
                for (int i = 0; i < 20; i++) x.person(1 + i % 7, i % 10, 1 + i % 3);
                for (int i = 0; i < 6; i++) x.beast(i, 1 + i % 4);
            }
            int n = m.getParameterCount();
            for (int i = 0; i < Math.pow(edges.length, n); i++) {
                Object[] args = new Object[n];
                for (int k = 0, rest = i; k < n; k++, rest /= edges.length) {
                    int v = edges[rest % edges.length];
                    if (m.getParameterTypes()[k] == long.class) args[k] = (long) v;
                    else args[k] = v;
                }
                m.invoke(x, args);
            }
        }
    }

    public static void main(String[] args) throws Exception {
        face();
        room();
        neverThrows();
        System.out.println(wrong == 0 ? "the face is the document's" : wrong + " things are not so");
        if (wrong != 0) System.exit(1);
    }
}
