import java.lang.reflect.InvocationTargetException;
import java.lang.reflect.Method;
import java.util.ArrayList;
import java.util.HashMap;
import java.util.List;
import java.util.Map;
import java.util.Random;

/** Runs of random calls, of which the program and the model must answer each alike. */
public final class ModelTest {
    private static final int RUNS = 1500, CALLS = 300;
    private static final Map<String, Method> METHODS = new HashMap<>();
    private static final int[] EDGES = {-2, -1, 0, 1, 2, 3, 4, 5, 6, 7, 8, 9, 10, 11, 12, 13, 14, 15, 30, 39, 40, 41,
        59, 60, 99, 100, 300, 399, 400, 401, 998, 999, 1000, 1001, 9998, 9999, 10000, 40000, 70000, -998, -999, -1000,
        Integer.MAX_VALUE, Integer.MIN_VALUE, Integer.MAX_VALUE - 2};

    private final Random random;
    private final UnevenTap tap = new UnevenTap();
    private final TapModel model = new TapModel();
    private final List<String> log = new ArrayList<>();

    private ModelTest(long seed) {
        random = new Random(seed);
    }

    public static void main(String[] args) throws Exception {
        for (Method m : UnevenTap.class.getDeclaredMethods()) {
            if (java.lang.reflect.Modifier.isPublic(m.getModifiers())) {
                METHODS.put(m.getName(), m);
            }
        }
        int runs = args.length > 0 ? Integer.parseInt(args[0]) : RUNS;
        for (int seed = 0; seed < runs; seed++) {
            ModelTest test = new ModelTest(seed);
            for (int i = 0; i < CALLS; i++) {
                if (!test.step()) {
                    System.out.println("run of seed " + seed + ":");
                    test.log.subList(Math.max(0, test.log.size() - 60), test.log.size()).forEach(System.out::println);
                    System.exit(1);
                }
            }
        }
        System.out.println(runs + " runs of " + CALLS + " calls are answered alike");
    }

    private boolean step() throws Exception {
        switch (random.nextInt(60)) {
            case 0:
            case 1:
                return feedText(text()) && ask("read");
            case 2:
            case 3:
                return tellRow();
            case 4:
                return ask("begin", random.nextInt(300), random.nextInt(200) - 100, random.nextInt(60) - 30);
            case 5:
                return ask("sheet", random.nextInt(4), random.nextInt(6) - 1, random.nextInt(41));
            case 6:
            case 7:
                return ask("put", random.nextInt(4), random.nextInt(6), random.nextInt(100000) - 20000);
            case 8:
            case 9:
                return ask("shelf", random.nextInt(4), random.nextInt(3), random.nextInt(4));
            case 10:
            case 11:
            case 12:
            case 13:
                return ask("act", random.nextInt(4), random.nextInt(4), random.nextInt(200) - 50) && askTrace();
            case 14:
                return ask("set", 0, random.nextInt(100));
            case 15:
                return random.nextInt(4) > 0 || ask("set", 1, random.nextInt(100));
            case 16:
                return random.nextInt(9) > 0 || ask("touch", 1 + random.nextInt(400));
            case 17:
                return random.nextInt(3) > 0 || ask("keep");
            case 18:
                return random.nextInt(3) > 0 || ask("again");
            case 19:
                return ask("run", random.nextInt(401));
            case 20:
                int from = random.nextInt(95);
                return random.nextInt(6) > 0 || ask(random.nextBoolean() ? "doubling" : "windows", from, from + random.nextInt(5));
            case 21:
                return ask("taken", random.nextInt(4), random.nextInt(8) + (random.nextInt(3) == 0 ? 8 : 0));
            case 22:
                return ask("rule", random.nextInt(4), random.nextInt(2));
            case 23:
                return ask("judge");
            case 24:
                return ask("alterRow", random.nextInt(12), random.nextInt(2), random.nextInt(20));
            case 25:
                return ask("water") && ask("many", random.nextInt(7));
            default:
                return askAny();
        }
    }

    private boolean askAny() throws Exception {
        List<String> names = new ArrayList<>(METHODS.keySet());
        names.sort(null);
        String name = names.get(random.nextInt(names.size()));
        boolean isDear = List.of("doubling", "windows", "touch").contains(name);
        boolean isRare = List.of("again", "clear", "begin", "record").contains(name);
        if ((isDear || isRare) && random.nextInt(8) > 0) {
            return true;
        }
        long[] x = new long[METHODS.get(name).getParameterCount()];
        for (int i = 0; i < x.length; i++) {
            x[i] = random.nextInt(3) == 0 ? EDGES[random.nextInt(EDGES.length)] : random.nextInt(5);
        }
        return ask(name, x);
    }

    private boolean askTrace() throws Exception {
        for (int i = 0; i < 10; i++) {
            if (!ask("trace", i)) {
                return false;
            }
        }
        return ask("many", 4);
    }

    private boolean tellRow() throws Exception {
        boolean same = ask("clear");
        int p = 1 + random.nextInt(5);
        int noise = random.nextInt(3);
        int n = random.nextInt(62);
        for (int i = 0; i < n && same; i++) {
            same = ask("tell", 5 + i % p + (noise == 0 ? random.nextInt(5) : 0));
        }
        return same && (random.nextInt(2) == 0 || ask("record"));
    }

    private boolean feedText(String text) throws Exception {
        boolean same = true;
        for (int i = 0; i < text.length() && same; i += 8) {
            long eight = random.nextLong();
            int n = Math.min(8, text.length() - i);
            for (int k = 0; k < n; k++) {
                eight = eight & ~(255L << 8 * k) | (long) text.charAt(i + k) << 8 * k;
            }
            same = ask("feed", eight, n);
        }
        return same;
    }

    private boolean ask(String name, long... x) throws Exception {
        Method m = METHODS.get(name);
        Object[] typed = new Object[x.length];
        for (int i = 0; i < x.length; i++) {
            if (m.getParameterTypes()[i] == long.class) {
                typed[i] = x[i];
            } else {
                typed[i] = (int) x[i];
            }
        }
        String call = name + java.util.Arrays.toString(x);
        try {
            long got = ((Number) m.invoke(tap, typed)).longValue();
            long due = model.call(name, x);
            log.add(call + " = " + got + (got == due ? "" : ", of the model " + due));
            return got == due;
        } catch (InvocationTargetException e) {
            log.add(call + " threw " + e.getCause());
            return false;
        }
    }

    // ---- texts

    private String text() {
        StringBuilder s = new StringBuilder();
        int n = random.nextInt(40) == 0 ? 9 : random.nextInt(5);
        for (int i = 0; i < n; i++) {
            String key = TapModel.KEYS[random.nextInt(4)];
            String e = key.equals("goes") && random.nextBoolean() ? "since > " + random.nextInt(6) + " + drops % "
                    + pick("2", "3", "4", "knob", "5", "( knob % 9 )") : e(random.nextInt(5));
            String law = key + blank() + e + " ;";
            if (s.length() + law.length() <= 200) {
                s.append(law);
            }
        }
        if (random.nextInt(4) == 0 && s.length() > 0) {
            s.setCharAt(random.nextInt(s.length()), pick(" ", ";", "(", ")", "-", "1", "9", "a", "+", "<", "\u00ff", "\u0000",
                    "Z").charAt(0));
        }
        if (random.nextInt(12) == 0) {
            s.setLength(random.nextInt(s.length() + 1));
        }
        return s.toString();
    }

    private String blank() {
        return random.nextInt(5) == 0 ? "  " : " ";
    }

    private String pick(String... of) {
        return of[random.nextInt(of.length)];
    }

    private String e(int deep) {
        String s = sum(deep);
        return random.nextInt(4) == 0 ? s + pick("<", "=", ">", " > ") + sum(deep) : s;
    }

    private String sum(int deep) {
        String s = term(deep);
        return random.nextInt(3) == 0 ? s + pick("+", "-", " + ") + term(deep) : s;
    }

    private String term(int deep) {
        String s = one(deep);
        return random.nextInt(3) == 0 ? s + pick("*", "/", "%", " / ") + one(deep) : s;
    }

    private String one(int deep) {
        if (deep > 0 && random.nextInt(3) == 0) {
            return random.nextBoolean() ? "-" + blank() + one(deep - 1) : "(" + e(deep - 1) + ")";
        }
        if (random.nextBoolean()) {
            return "" + pick(0 + "", random.nextInt(10) + "", random.nextInt(200) + "", random.nextInt(10000) + "");
        }
        return pick("weight", "sway", "speed", "tick", "since", "drops", "knob");
    }
}
