import java.lang.reflect.Method;
import java.util.ArrayList;
import java.util.Arrays;
import java.util.Comparator;
import java.util.List;
import java.util.Random;

/** Runs of drawn calls, each answer held against PlainTill's. Seeds are fixed: each run of this test is the same. */
public final class ModelTest {
    private static final List<Method> CALLS = new ArrayList<>();
    private static int wrong = 0;
    private static long asked = 0;

    public static void main(String[] args) throws Exception {
        int runs = args.length > 0 ? Integer.parseInt(args[0]) : 400;
        long from = args.length > 1 ? Long.parseLong(args[1]) : 0;
        for (Method m : TillFloat.class.getDeclaredMethods()) {
            if (java.lang.reflect.Modifier.isPublic(m.getModifiers())) {
                CALLS.add(m);
            }
        }
        CALLS.sort(Comparator.comparing(Method::getName));
        for (int i = 0; i < runs && wrong < 20; i++) {
            run(from + i);
            runFull(from + i);
        }
        System.out.println(wrong == 0 ? "model: " + asked + " answers as due" : "model: " + wrong + " answers not as due");
        if (wrong != 0) {
            System.exit(1);
        }
    }

    private static void run(long seed) throws Exception {
        Random r = new Random(seed);
        TillFloat x = new TillFloat();
        PlainTill y = new PlainTill();
        List<String> told = new ArrayList<>();
        int size = r.nextInt(4);
        int calls = 0;
        while (calls < 160) {
            if (calls == 0 && r.nextInt(10) > 0 || r.nextInt(60) == 0) {
                String text = Texts.draw(r, size);
                if (r.nextInt(4) == 0) {
                    text = Texts.spoil(r, text);
                }
                calls += Texts.feed(x, y, text, told);
                check(seed, told, "tell()", x.tell(), y.tell());
                calls++;
                continue;
            }
            Method m = CALLS.get(r.nextInt(CALLS.size()));
            Class<?>[] types = m.getParameterTypes();
            Object[] arguments = new Object[types.length];
            for (int i = 0; i < types.length; i++) {
                arguments[i] = argument(r, m.getName(), i, y);
            }
            Number a = (Number) m.invoke(x, arguments);
            Number b = (Number) PlainTill.class.getMethod(m.getName(), types).invoke(y, arguments);
            String call = m.getName() + Arrays.toString(arguments).replace('[', '(').replace(']', ')');
            check(seed, told, call, a.longValue(), b.longValue());
            calls++;
        }
        for (int k = -1; k <= y.text().length(); k++) {
            check(seed, told, "letter(" + k + ")", x.letter(k), y.letter(k));
        }
    }

    /** What is asked of days in tills so full that sales are short for it, and what trims and lives make of them. */
    private static void runFull(long seed) {
        Random r = new Random(seed * 31 + 7);
        TillFloat x = new TillFloat();
        PlainTill y = new PlainTill();
        List<String> told = new ArrayList<>();
        for (int i = 0; i < 10; i++) {
            Texts.feed(x, y, Texts.drawFull(r), told);
            check(seed, told, "tell()", x.tell(), y.tell());
            int kind = r.nextInt(y.s.kinds());
            check(seed, told, "trim(0, " + kind + ")", x.trim(0, kind), y.trim(0, kind));
            check(seed, told, "trim(0, -1)", x.trim(0, -1), y.trim(0, -1));
            check(seed, told, "flow(0, " + kind + ")", x.flow(0, kind), y.flow(0, kind));
            check(seed, told, "behind(0, 3, " + kind + ")", x.behind(0, 3, kind), y.behind(0, 3, kind));
            check(seed, told, "lasts(0)", x.lasts(0), y.lasts(0));
            check(seed, told, "live(0)", x.live(0), y.live(0));
        }
    }

    private static int argument(Random r, String name, int i, PlainTill y) {
        if (r.nextInt(25) == 0) {
            int[] odd = {-2, -1, 0, 1, 2501, 2500, 1000, 1001, 100, 99, 20, 21, Integer.MAX_VALUE, Integer.MIN_VALUE, r.nextInt()};
            return odd[r.nextInt(odd.length)];
        }
        int kind = r.nextInt(Math.max(1, y.s.kinds()));
        int day = r.nextInt(Math.max(1, y.s.days.size()));
        int amount = r.nextInt(3) == 0 ? r.nextInt(2501) : r.nextInt(Math.max(1, Math.min(2501, y.worth(y.s.till) + 2)));
        switch (name) {
            case "feed":
                return r.nextInt();
            case "end":
                return r.nextInt(30) - 2;
            case "put":
                return i == 0 ? r.nextInt(4) : i == 1 ? kind : r.nextInt(5) == 0 ? r.nextInt(100) : r.nextInt(12);
            case "hand":
            case "bags":
                return kind;
            case "pay":
                return 1 + r.nextInt(Math.max(1, Math.min(1000, y.worth(y.s.tray))));
            case "sell":
                return 1 + r.nextInt(r.nextInt(3) == 0 ? 1000 : 60);
            case "order":
                return i == 0 ? kind : 1 + r.nextInt(4);
            case "drawn":
                return i == 0 ? r.nextInt() : 1 + r.nextInt(4);
            case "keep":
            case "back":
                return r.nextInt(2);
            case "kind":
                return i == 0 ? kind : r.nextInt(7);
            case "change":
            case "ways":
                return amount;
            case "piece":
                return i == 0 ? amount : kind;
            case "even":
                return i == 0 ? amount / 4 : r.nextInt(5);
            case "settle":
            case "pays":
                return i == 0 ? 1 + r.nextInt(r.nextInt(3) == 0 ? 1000 : 60) : r.nextInt(3) == 0 ? -1 : kind;
            case "swap":
                return i == 0 ? kind : 1 + r.nextInt(6);
            case "gap":
            case "scarce":
            case "dearest":
            case "greedy":
                return r.nextInt(2);
            case "worst":
                return r.nextInt(3);
            case "total":
                return r.nextInt(5);
            case "count":
                return r.nextInt(10);
            case "letter":
                return r.nextInt(200) - 1;
            case "gone":
                return i == 0 ? day : r.nextInt(2);
            case "day":
                return i == 0 ? day : r.nextInt(6);
            case "sale":
                return i == 0 ? day : i == 1 ? r.nextInt(5) : r.nextBoolean() ? r.nextInt(4) : 10 + kind;
            case "behind":
                return i == 0 ? day : i == 1 ? 1 + r.nextInt(8) : kind;
            case "trim":
            case "needs":
                return i == 0 ? day : r.nextInt(3) == 0 ? -1 : kind;
            default:
                return i == 0 ? day : kind;
        }
    }

    private static void check(long seed, List<String> told, String call, long a, long b) {
        asked++;
        told.add(call);
        if (a != b) {
            wrong++;
            System.out.println("seed " + seed + ": " + call + " answered " + a + ", due is " + b);
            if (wrong == 1) {
                for (String line : told) {
                    System.out.println("  " + line);
                }
            }
        }
    }
}
