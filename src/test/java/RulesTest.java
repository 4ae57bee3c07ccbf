import java.lang.reflect.Constructor;
import java.lang.reflect.Field;
import java.lang.reflect.Method;
import java.lang.reflect.Modifier;
import java.util.ArrayList;
import java.util.Arrays;
import java.util.List;
import java.util.Set;
import java.util.TreeSet;

/** What of LANGUAGE.md can be seen from outside: the face, the sizes of classes, and that no call makes an object. */
public final class RulesTest {
    private static int wrong = 0;

    private static void need(boolean holds, String what) {
        if (!holds) {
            wrong++;
            System.out.println(what);
        }
    }

    public static void main(String[] args) throws Exception {
        face();
        classes();
        room();
        oddArguments();
        System.out.println(wrong == 0 ? "rules: kept" : "rules: " + wrong + " broken");
        if (wrong != 0) {
            System.exit(1);
        }
    }

    private static void face() {
        Set<String> want = new TreeSet<>(Arrays.asList(
            "int feed(int, int, int, int, int)", "int end(int)", "int tell()", "int put(int, int, int)", "int hand(int)", "int pay(int)", "int sell(int)",
            "int live(int)", "int bank()", "int order(int, int)", "int drawn(int, int)", "int undo()", "int keep(int)", "int back(int)", "int kind(int, int)",
            "int change(int)", "int piece(int, int)", "int settle(int, int)", "long ways(int)", "int gap(int)", "int scarce(int)", "int day(int, int)",
            "int sale(int, int, int)", "int behind(int, int, int)", "int lasts(int)", "int trim(int, int)", "int worst(int)", "int bags(int)", "long mean(int)",
            "int pays(int, int)", "int swap(int, int)", "int needs(int, int)", "int dearest(int)", "long share()", "int greedy(int)", "int letter(int)",
            "int flow(int, int)", "int gone(int, int)", "int even(int, int)", "int total(int)", "int count(int)"));
        Set<String> names = new TreeSet<>();
        Set<String> there = new TreeSet<>();
        for (Method m : TillFloat.class.getDeclaredMethods()) {
            if (!Modifier.isPrivate(m.getModifiers())) {
                String types = Arrays.toString(m.getParameterTypes());
                there.add(m.getReturnType() + " " + m.getName() + "(" + types.substring(1, types.length() - 1) + ")");
                names.add(m.getName());
                need(Modifier.isPublic(m.getModifiers()) && !Modifier.isStatic(m.getModifiers()), m + " is no method of the face");
            }
        }
        need(there.equals(want), "the face is " + there);
        need(Modifier.isFinal(TillFloat.class.getModifiers()), "TillFloat is not final");
        for (Field f : TillFloat.class.getDeclaredFields()) {
            need(Modifier.isPrivate(f.getModifiers()) || f.getName().equals("NONE"), f + " is no field of the face");
        }
        for (Class<?> c : all()) {
            for (Method m : c.getDeclaredMethods()) {
                need(c == TillFloat.class && Modifier.isPublic(m.getModifiers()) || !names.contains(m.getName()), m + " bears a name of the face");
            }
        }
    }

    private static List<Class<?>> all() {
        List<Class<?>> all = new ArrayList<>(Arrays.asList(TillFloat.class.getDeclaredClasses()));
        all.add(TillFloat.class);
        return all;
    }

    private static void classes() {
        need(all().size() <= 12, all().size() + " classes");
        for (Class<?> c : all()) {
            need(c == TillFloat.class || Modifier.isStatic(c.getModifiers()) && !Modifier.isPublic(c.getModifiers()), c + " is not static or is public");
            int fields = 0;
            for (Field f : c.getDeclaredFields()) {
                fields += Modifier.isStatic(f.getModifiers()) ? 0 : 1;
                need(!Modifier.isStatic(f.getModifiers()) || Modifier.isFinal(f.getModifiers()), f + " is static and not final");
            }
            need(fields <= 20, c + " has " + fields + " fields");
            for (Method m : c.getDeclaredMethods()) {
                need(m.getParameterCount() <= 7, m + " takes too much");
            }
            for (Constructor<?> m : c.getDeclaredConstructors()) {
                need(m.getParameterCount() <= 7, m + " takes too much");
            }
        }
    }

    private static final String FAIR = "kinds 1 2 5 10 20 50 100 200;float 9 9 9 9 9 9 9 9;purse 3 3 3 3 3 3 3 3;limit 5 5 5 5 5 5 5 5;day;sale 3:5;sale 3:200 200 200";

    /** All that is made is made with the object: 512 calls must not fill the room. */
    private static void room() {
        com.sun.management.ThreadMXBean bean = (com.sun.management.ThreadMXBean) java.lang.management.ManagementFactory.getThreadMXBean();
        useAll();
        TillFloat x = Texts.till(FAIR);
        long before = bean.getCurrentThreadAllocatedBytes();
        for (int i = 0; i < 12; i++) {
            useAll(x);
        }
        long made = bean.getCurrentThreadAllocatedBytes() - before;
        need(made < 4096, "calls made " + made + " bytes of objects");
        before = bean.getCurrentThreadAllocatedBytes();
        new TillFloat();
        made = bean.getCurrentThreadAllocatedBytes() - before;
        need(made < 400000, "a new object has " + made + " bytes");
    }

    private static void useAll() {
        for (int i = 0; i < 3; i++) {
            useAll(Texts.till(FAIR));
        }
    }

    private static long useAll(TillFloat x) {
        long sum = x.put(0, 1, 8) + x.hand(4) + x.pay(7) + x.sell(33) + x.live(0) + x.bank() + x.order(1, 1) + x.drawn(4, 3) + x.undo() + x.keep(0);
        sum += x.kind(1, 1) + x.change(77) + x.change(2499) + x.piece(78, 1) + x.settle(99, 1) + x.ways(500) + x.gap(0) + x.scarce(1) + x.day(0, 2);
        sum += x.sale(0, 0, 1) + x.behind(0, 3, 1) + x.lasts(0) + x.trim(0, 1) + x.worst(0) + x.bags(1) + x.mean(0) + x.pays(88, 2) + x.swap(3, 2);
        sum += x.needs(0, -1) + x.dearest(1) + x.share() + x.greedy(1) + x.letter(60) + x.flow(0, 1) + x.gone(0, 0) + x.even(30, 4) + x.total(0);
        sum += x.back(0) + x.feed(1, 2, 3, 4, 5) + x.end(3) + x.tell() + x.count(3);
        return sum;
    }

    /** Whatever is asked, in whatever state, nothing is thrown. */
    private static void oddArguments() throws Exception {
        int[] odd = {Integer.MIN_VALUE, Integer.MIN_VALUE + 1, -1001, -3, -2, -1, 0, 1, 2, 7, 8, 9, 10, 17, 18, 100, 400, 401, 1000, 2500, 2501, 1 << 30, Integer.MAX_VALUE - 9,
            Integer.MAX_VALUE};
        TillFloat[] tills = {new TillFloat(), Texts.till("kinds 500"), Texts.till(FAIR), Texts.till("kinds 1;float 99;bag 99;day;sale 1:1 1")};
        for (TillFloat x : tills) {
            for (Method m : TillFloat.class.getDeclaredMethods()) {
                if (Modifier.isPublic(m.getModifiers())) {
                    askAll(x, m, odd);
                }
            }
        }
    }

    private static void askAll(TillFloat x, Method m, int[] odd) throws Exception {
        int n = m.getParameterCount();
        int used = Math.min(n, 3);
        int times = (int) Math.pow(odd.length, used);
        for (int i = 0; i < times; i++) {
            Object[] arguments = new Object[n];
            int code = i;
            for (int j = 0; j < n; j++) {
                arguments[j] = odd[code % odd.length];
                code = j < used - 1 ? code / odd.length : code;
            }
            try {
                m.invoke(x, arguments);
            } catch (java.lang.reflect.InvocationTargetException thrown) {
                need(false, m.getName() + Arrays.toString(arguments) + " threw " + thrown.getCause());
                return;
            }
        }
    }
}
