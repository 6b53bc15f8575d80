import java.lang.reflect.InvocationTargetException;
import java.lang.reflect.Method;
import java.util.ArrayList;
import java.util.Arrays;
import java.util.HashMap;
import java.util.List;
import java.util.Map;
import java.util.Set;

/**
 * Runs of steps, each on a new object, for the tests of edges. A step is a text:
 * "tell(0) -1" a call and what is due, "tell(7)" a call alone, "60 x tell(7)" sixty of them,
 * "row 4 5 6" what THE ROW becomes, "text flow 1" what comes to THE TAPE, "laws flow 1 ;" the same, read.
 * Behind a refusal, and behind a call that only asks, the object must be as one that was not called so.
 */
final class Edges {
    private static final Set<String> ASKING = Set.of("tap", "water", "says", "time", "period", "kind", "order", "hits",
            "ahead", "rule", "drift", "span", "grid", "doubling", "windows", "touch", "lost", "row", "judge", "recorded",
            "alike", "item", "taken", "trace", "many");
    // What these answer below 0 may be an answer like another.
    private static final Set<String> TELLING = Set.of("act", "seed");
    private static final Map<String, Method> METHODS = new HashMap<>();

    static {
        for (Method m : UnevenTap.class.getDeclaredMethods()) {
            METHODS.put(m.getName(), m);
        }
    }

    private final List<String> ahead;
    private int asked;
    private int wrong;

    /** Each run begins with the steps told here. */
    Edges(String... ahead) {
        this.ahead = List.of(ahead);
    }

    /** One run. */
    void edge(String sentence, String... steps) {
        List<String> all = new ArrayList<>(ahead);
        all.addAll(List.of(steps));
        UnevenTap t = new UnevenTap();
        for (int i = 0; i < all.size(); i++) {
            Step step = new Step(all.get(i));
            long got = step.takeOn(t);
            if (!step.isAsked) {
                continue;
            }
            asked++;
            mustBe(got == step.due, sentence, all.get(i), "answered " + got);
            if (step.mustChangeNothing()) {
                boolean isTapeLeft = !step.name.equals("read");
                List<Long> without = sightOf(after(all.subList(0, i)), isTapeLeft);
                List<Long> with = sightOf(after(all.subList(0, i + 1)), isTapeLeft);
                mustBe(with.equals(without), sentence, all.get(i), "changed something");
            }
        }
    }

    /** As many runs as there are steps. */
    void each(String sentence, String... steps) {
        for (String step : steps) {
            edge(sentence, step);
        }
    }

    int asked() {
        return asked;
    }

    int wrong() {
        return wrong;
    }

    private void mustBe(boolean holds, String sentence, String step, String what) {
        if (!holds) {
            wrong++;
            System.out.println(sentence + ": " + step + ": " + what);
        }
    }

    /** A new object behind these steps; what is due of them isn't looked at. */
    static UnevenTap after(List<String> steps) {
        UnevenTap t = new UnevenTap();
        for (String step : steps) {
            new Step(step).takeOn(t);
        }
        return t;
    }

    static void feedText(UnevenTap t, String text) {
        for (int i = 0; i < text.length(); i += 8) {
            int n = Math.min(8, text.length() - i);
            long eight = 0;
            for (int k = n - 1; k >= 0; k--) {
                eight = eight << 8 | text.charAt(i + k);
            }
            t.feed(eight, n);
        }
    }

    // ---- what can be seen of an object

    /** What can be asked of an object in some 400 calls; it is spoilt by that. */
    private static List<Long> sightOf(UnevenTap t, boolean isTapeLeft) {
        List<Long> all = new ArrayList<>();
        for (int i = 0; i < 12; i++) {
            all.add((long) t.row(i, 0));
            all.add((long) t.row(i, 1));
        }
        for (int i = 0; i < 9; i++) {
            all.add((long) t.trace(i));
        }
        for (int n = 0; n < 4; n++) {
            for (int sort = 0; sort < 5; sort++) {
                for (int i : new int[] {0, 1, 39}) {
                    all.add((long) t.item(n, sort, i));
                }
            }
            for (int as : new int[] {0, 1, 2, 3, 4, 5, 6, 7, 10, 11, 12, 13, 14}) {
                all.add((long) t.taken(n, as));
            }
        }
        seeKept(t, all);
        all.add((long) t.seed(0));
        all.add(isTapeLeft ? (long) t.many(3) : 0);
        if (isTapeLeft) {
            all.add((long) t.read());
            seeLaws(t, all);
        }
        all.add((long) t.again());
        seeKept(t, all);
        all.add((long) t.run(50));
        seeTap(t, all);
        return all;
    }

    private static void seeKept(UnevenTap t, List<Long> all) {
        seeTap(t, all);
        seeLaws(t, all);
        for (int what : new int[] {0, 1, 2, 4}) {
            all.add((long) t.many(what));
        }
        int times = t.many(0);
        for (int i = 0; i < times; i++) {
            all.add((long) t.time(i));
        }
        int records = t.many(1);
        for (int i = 0; i < records; i++) {
            int count = t.recorded(i, 1);
            for (int what : new int[] {0, 2, 3, count + 2}) {
                all.add((long) t.recorded(i, what));
            }
            all.add((long) count);
        }
    }

    private static void seeTap(UnevenTap t, List<Long> all) {
        for (int what = 0; what < 8; what++) {
            all.add((long) t.tap(what));
        }
        all.add(t.water());
    }

    private static void seeLaws(UnevenTap t, List<Long> all) {
        for (int key = 0; key < 4; key++) {
            all.add((long) t.says(key));
        }
        all.add((long) t.many(5));
    }

    // ---- steps

    private static final class Step {
        final String name;
        final boolean isAsked;
        final long due;
        private final String rest;
        private final int times;

        Step(String text) {
            boolean isRepeated = text.matches("[0-9]+ x .*");
            times = isRepeated ? Integer.parseInt(text.substring(0, text.indexOf(' '))) : 1;
            String call = isRepeated ? text.substring(text.indexOf(" x ") + 3) : text;
            int open = call.indexOf('(');
            int close = call.lastIndexOf(')');
            if (call.matches("(?s)(row|text|laws)( .*)?")) {
                name = call.substring(0, call.startsWith("row") ? 3 : 4) + " ";
                rest = call.substring(Math.min(call.length(), name.length()));
                isAsked = false;
                due = 0;
            } else {
                name = call.substring(0, open);
                rest = call.substring(open + 1, close);
                isAsked = close < call.length() - 1;
                due = isAsked ? number(call.substring(close + 1)) : 0;
            }
        }

        boolean mustChangeNothing() {
            if (name.equals("alterRow")) {
                return due == -9;
            }
            boolean isRefused = due < 0 && !TELLING.contains(name) && !(name.equals("times") && due == -12);
            return ASKING.contains(name) || isRefused;
        }

        long takeOn(UnevenTap t) {
            long answer = 0;
            for (int i = 0; i < times; i++) {
                answer = takeOnce(t);
            }
            return answer;
        }

        private long takeOnce(UnevenTap t) {
            switch (name) {
                case "row ":
                    t.clear();
                    Arrays.stream(rest.trim().split(" +")).filter(s -> !s.isEmpty()).forEach(s -> t.tell((int) number(s)));
                    return 0;
                case "text ":
                    feedText(t, rest);
                    return 0;
                case "laws ":
                    feedText(t, rest);
                    if (t.read() < 0) {
                        throw new IllegalArgumentException(rest);
                    }
                    return 0;
                default:
                    return call(t);
            }
        }

        private long call(UnevenTap t) {
            Method m = METHODS.get(name);
            String[] parts = rest.isBlank() ? new String[0] : rest.split(",");
            Object[] typed = new Object[parts.length];
            for (int i = 0; i < parts.length; i++) {
                long v = number(parts[i]);
                if (m.getParameterTypes()[i] == long.class) {
                    typed[i] = v;
                } else {
                    typed[i] = (int) v;
                }
            }
            try {
                return ((Number) m.invoke(t, typed)).longValue();
            } catch (InvocationTargetException | IllegalAccessException e) {
                throw new IllegalStateException(name + "(" + rest + ")", e);
            }
        }

        private static long number(String s) {
            switch (s.trim()) {
                case "MIN":
                    return Integer.MIN_VALUE;
                case "MAX":
                    return Integer.MAX_VALUE;
                default:
                    return Long.decode(s.trim());
            }
        }
    }
}
