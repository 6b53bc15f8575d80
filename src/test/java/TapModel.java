import java.util.ArrayList;
import java.util.Arrays;
import java.util.List;

/**
 * The document a second time, written in another way than the program: with trees, lists, exceptions and classes
 * that give way to one another. ModelTest asks both the same.
 */
final class TapModel {
    interface E {
        int worth(Tap t);
    }

    static final class Fault extends RuntimeException {
        final int place;

        Fault(int place) {
            super(null, null, false, false);
            this.place = place;
        }
    }

    static final class Host extends RuntimeException {
        final int refusal;

        Host(int refusal) {
            super(null, null, false, false);
            this.refusal = refusal;
        }
    }

    static final class Tap implements Cloneable {
        long weight, begun, flowed, fell;
        int sway, speed, tick, since, drops, knob = 10, shake, z = 1;
        List<Integer> row = new ArrayList<>();
        List<int[]> fallen = new ArrayList<>();

        Tap copy() {
            try {
                Tap t = (Tap) clone();
                t.row = new ArrayList<>(row);
                t.fallen = new ArrayList<>();
                return t;
            } catch (CloneNotSupportedException e) {
                throw new IllegalStateException(e);
            }
        }
    }

    static int clamp(int v, int lo, int hi) {
        return v < lo ? lo : v > hi ? hi : v;
    }

    static final String[] KEYS = {"flow", "pull", "goes", "left"};
    static final String FIRST = "flow knob ; pull sway / 4 ; goes weight > 100 ; left weight / 5 + sway ;";

    Tap tap = new Tap();
    E[] laws = parse(FIRST);
    int told = 0;
    List<List<Integer>> records = new ArrayList<>();
    StringBuilder tape = new StringBuilder();
    List<int[]> proved = new ArrayList<>();
    Object[] sheets = new Object[4];
    Object[] shelves = new Object[4];
    List<Integer> trace = new ArrayList<>();
    Object[] kept;

    static void tick(Tap t, E[] laws) {
        t.tick++;
        t.since++;
        int f = clamp(laws[0].worth(t), 0, 999);
        t.flowed += f;
        t.weight = Math.min(99999, t.weight + f);
        t.speed -= clamp(laws[1].worth(t), -999, 999);
        if (t.shake != 0) {
            t.z = t.z * 1103515245 + 12345;
            t.speed += Integer.remainderUnsigned(t.z >>> 16, 2 * t.shake + 1) - t.shake;
        }
        t.speed = clamp(t.speed, -999, 999);
        t.sway += t.speed;
        if (Math.abs(t.sway) > 999) {
            t.sway = t.sway < 0 ? -999 : 999;
            t.speed = 0;
        }
        if (laws[2].worth(t) != 0) {
            int left = clamp(laws[3].worth(t), 0, (int) t.weight);
            int falls = (int) t.weight - left;
            t.fallen.add(new int[] {t.since, falls});
            t.fell += falls;
            t.weight = left;
            t.sway = -(t.sway / 2);
            t.speed = -(t.speed / 2);
            if (t.row.size() < 60) {
                t.row.add(t.since);
            }
            t.since = 0;
            t.drops++;
        }
    }

    Tap trial(int n, int knob, int moreSpeed, int moreWeight) {
        Tap t = tap.copy();
        t.row.clear();
        t.knob = knob;
        t.speed += moreSpeed;
        t.weight = Math.min(99999, t.weight + moreWeight);
        for (int i = 0; i < n; i++) {
            tick(t, laws);
        }
        return t;
    }

    // ---- texts

    static final class Token {
        final int place;
        final String text;

        Token(int place, String text) {
            this.place = place;
            this.text = text;
        }
    }

    static final class Parser {
        final List<Token> tokens = new ArrayList<>();
        int next = 0;
        int open = 0;

        Parser(String s) {
            for (int i = 0; i < s.length();) {
                int j = i + 1;
                if (s.substring(i, j).matches("[a-z]")) {
                    while (j < s.length() && s.substring(j, j + 1).matches("[a-z]")) {
                        j++;
                    }
                } else if (s.substring(i, j).matches("[0-9]")) {
                    while (j < s.length() && s.substring(j, j + 1).matches("[0-9]")) {
                        j++;
                    }
                }
                if (s.charAt(i) != ' ') {
                    tokens.add(new Token(i, s.substring(i, j)));
                }
                i = j;
            }
            tokens.add(new Token(s.length(), ""));
        }

        String see() {
            return tokens.get(next).text;
        }

        Fault fault() {
            return new Fault(tokens.get(next).place);
        }

        boolean takes(String... some) {
            if (Arrays.asList(some).contains(see()) && !see().isEmpty()) {
                next++;
                return true;
            }
            return false;
        }

        String latest() {
            return tokens.get(next - 1).text;
        }

        E e() {
            E a = sum();
            if (takes("<", "=", ">")) {
                String s = latest();
                E b = sum();
                return t -> {
                    int x = a.worth(t), y = b.worth(t);
                    return (s.equals("<") ? x < y : s.equals("=") ? x == y : x > y) ? 1 : 0;
                };
            }
            return a;
        }

        E sum() {
            E all = term();
            while (takes("+", "-")) {
                int sign = latest().equals("+") ? 1 : -1;
                E a = all, b = term();
                all = t -> a.worth(t) + sign * b.worth(t);
            }
            return all;
        }

        E term() {
            E all = one();
            while (takes("*", "/", "%")) {
                String s = latest();
                E a = all, b = one();
                all = t -> {
                    int x = a.worth(t), y = b.worth(t);
                    if (s.equals("*")) {
                        return x * y;
                    }
                    return y == 0 ? 0 : (int) (s.equals("/") ? (long) x / y : (long) x % y);
                };
            }
            return all;
        }

        E one() {
            String s = see();
            if (s.matches("[0-9]{1,4}")) {
                next++;
                int v = Integer.parseInt(s);
                return t -> v;
            }
            if ((s.equals("-") || s.equals("(")) && open < 4) {
                next++;
                open++;
                E a = s.equals("-") ? one() : e();
                if (s.equals("(") && !takes(")")) {
                    throw fault();
                }
                open--;
                return s.equals("-") ? t -> -a.worth(t) : a;
            }
            if (!Arrays.asList("weight", "sway", "speed", "tick", "since", "drops", "knob").contains(s)) {
                throw fault();
            }
            next++;
            switch (s) {
                case "weight": return t -> (int) t.weight;
                case "sway": return t -> t.sway;
                case "speed": return t -> t.speed;
                case "tick": return t -> t.tick;
                case "since": return t -> t.since;
                case "drops": return t -> t.drops;
                default: return t -> t.knob;
            }
        }
    }

    static E[] parse(String s) {
        E[] all = new E[4];
        Parser p = new Parser(s);
        for (int n = 0; !p.see().isEmpty(); n++) {
            if (n == 8 || !p.takes(KEYS)) {
                throw p.fault();
            }
            int key = Arrays.asList(KEYS).indexOf(p.latest());
            all[key] = p.e();
            if (!p.takes(";")) {
                throw p.fault();
            }
        }
        return all;
    }

    // ---- rows

    static int period(List<Integer> row) {
        List<Integer> half = row.subList(row.size() / 2, row.size());
        for (int p = 1; p <= 8 && p <= half.size() / 2; p++) {
            if (half.subList(p, half.size()).equals(half.subList(0, half.size() - p))) {
                return p;
            }
        }
        return 0;
    }

    static int kind(List<Integer> row) {
        return row.isEmpty() ? 6 : new int[] {5, 1, 2, 4, 3, 5, 5, 5, 5}[period(row)];
    }

    static int toldAhead(List<Integer> row, int i, int k) {
        int at = row.get(i);
        for (; k > 0; k--) {
            int best = i - 1;
            for (int j = i - 2; j >= 0; j--) {
                if (Math.abs(row.get(j) - at) < Math.abs(row.get(best) - at)) {
                    best = j;
                }
            }
            at = row.get(best + 1);
        }
        return at;
    }

    // ---- things

    abstract class Thing {
        int n, a;

        abstract int grows(int x);

        abstract int swings(int x);

        abstract int parts(int x);

        abstract int tells(int x);

        void b(int number) {
            trace.add(number);
        }
    }

    class Row extends Thing {
        int grows(int x) {
            b(10);
            return x + a;
        }

        int swings(int x) {
            b(11);
            return grows(x) * 2;
        }

        int parts(int x) {
            b(12);
            if (a == n) {
                throw new Host(-15);
            }
            return x / (a - n);
        }

        int tells(int x) {
            b(13);
            return swings(x) ^ n;
        }
    }

    class Even extends Row {
        int swings(int x) {
            b(20);
            return super.swings(x) - 3;
        }
    }

    class Twos extends Row {
        int grows(int x) {
            b(30);
            return super.grows(x) * 5;
        }

        int tells(int x) {
            b(31);
            return super.tells(x) + parts(n);
        }
    }

    class Fours extends Twos {
        int grows(int x) {
            b(40);
            return super.grows(x) ^ a;
        }

        int parts(int x) {
            b(41);
            return super.parts(x + 1);
        }
    }

    class Windowed extends Row {
        int swings(int x) {
            b(50);
            return 0 - super.swings(x);
        }
    }

    class Muddled extends Row {
        int tells(int x) {
            b(60);
            return super.tells(x) * 2;
        }

        int parts(int x) {
            b(61);
            return super.parts(x - 1);
        }
    }

    class Running extends Muddled {
        int grows(int x) {
            b(70);
            return super.grows(x) - 6;
        }

        int parts(int x) {
            b(71);
            return super.parts(x) ^ 1;
        }
    }

    class Law extends Thing {
        int grows(int x) {
            b(80);
            return a - x;
        }

        int swings(int x) {
            b(81);
            return grows(x) * n;
        }

        int parts(int x) {
            b(82);
            return x & a;
        }

        int tells(int x) {
            b(83);
            return swings(x) - parts(n);
        }
    }

    static final Class<?>[] KINDS = {Row.class, Even.class, Twos.class, Fours.class, Windowed.class, Muddled.class,
        Running.class, Law.class};
    static final Class<?>[] SORTS = {byte[].class, short[].class, int[].class, long[].class, boolean[].class};

    Thing thing(Object held) {
        if (!(held instanceof int[]) || ((int[]) held).length != 2) {
            return null;
        }
        int n = ((int[]) held)[1];
        Thing t;
        if (((int[]) held)[0] == 1) {
            t = new Law();
            t.a = laws[n].worth(tap);
        } else {
            if (n >= records.size()) {
                return null;
            }
            Thing[] all = {null, new Even(), new Twos(), new Fours(), new Windowed(), new Muddled(), new Running()};
            t = all[kind(records.get(n))];
            t.a = records.get(n).size();
        }
        t.n = n;
        return t;
    }

    /** A sheet's row on a shelf, apart from a thing's two numbers. */
    static final class Shelved {
        final Object row;

        Shelved(Object row) {
            this.row = row;
        }
    }

    static int length(Object row) {
        return java.lang.reflect.Array.getLength(row);
    }

    static Object checked(Object row, int sort) {
        if (row != null && !SORTS[sort].isInstance(row)) {
            throw new Host(-13);
        }
        if (row == null) {
            throw new Host(-11);
        }
        return row;
    }

    static void inside(Object row, int i) {
        if (i < 0 || i >= length(row)) {
            throw new Host(-12);
        }
    }

    // ---- the calls

    static boolean in(int v, int lo, int hi) {
        return lo <= v && v <= hi;
    }

    long call(String name, long[] x) {
        int a = x.length > 0 ? (int) x[0] : 0;
        int b = x.length > 1 ? (int) x[1] : 0;
        int c = x.length > 2 ? (int) x[2] : 0;
        try {
            long answer = tapCall(name, x, a, b, c);
            if (answer == Long.MIN_VALUE) {
                answer = rowCall(name, a, b);
            }
            if (answer == Long.MIN_VALUE) {
                answer = trialCall(name, a, b, c);
            }
            return answer == Long.MIN_VALUE ? hostCall(name, a, b, c) : answer;
        } catch (Host h) {
            return h.refusal;
        }
    }

    private long tapCall(String name, long[] x, int a, int b, int c) {
        switch (name) {
            case "begin":
                if (!in(a, 0, 9999) || !in(b, -999, 999) || !in(c, -999, 999)) {
                    return -1;
                }
                Tap t = new Tap();
                t.knob = tap.knob;
                t.shake = tap.shake;
                t.z = tap.z;
                t.weight = a;
                t.begun = a;
                t.sway = b;
                t.speed = c;
                tap = t;
                return 1;
            case "set":
                if (!in(a, 0, 1) || !in(b, 0, 99)) {
                    return -1;
                }
                int had = a == 0 ? tap.knob : tap.shake;
                if (a == 0) {
                    tap.knob = b;
                } else {
                    tap.shake = b;
                }
                return had;
            case "seed":
                int z = tap.z;
                tap.z = a;
                return z;
            case "run":
                if (!in(a, 0, 400)) {
                    return -1;
                }
                int before = tap.drops;
                for (int i = 0; i < a; i++) {
                    tick(tap, laws);
                }
                return tap.drops - before;
            case "tap":
                return in(a, 0, 7) ? new int[] {(int) tap.weight, tap.sway + 10000, tap.speed + 10000, tap.tick,
                    tap.since, tap.drops, tap.knob, tap.shake}[a] : -1;
            case "water":
                return tap.flowed - tap.fell - tap.weight + tap.begun;
            case "feed":
                if (!in(b, 1, 8)) {
                    return -1;
                }
                if (tape.length() + b > 200) {
                    return -2;
                }
                for (int i = 0; i < b; i++) {
                    tape.append((char) (x[0] >> 8 * i & 0xff));
                }
                return tape.length();
            case "read":
                String text = tape.toString();
                tape.setLength(0);
                try {
                    E[] read = parse(text);
                    told = (int) Arrays.stream(read).filter(e -> e != null).count();
                    E[] first = parse(FIRST);
                    for (int i = 0; i < 4; i++) {
                        laws[i] = read[i] == null ? first[i] : read[i];
                    }
                    return told;
                } catch (Fault f) {
                    return -100 - f.place;
                }
            case "says":
                return in(a, 0, 3) ? laws[a].worth(tap) : 0;
            case "keep":
                kept = new Object[] {tap.copy(), laws.clone(), told, new ArrayList<>(records)};
                return 1;
            case "again":
                return again();
            default:
                return Long.MIN_VALUE;
        }
    }

    @SuppressWarnings("unchecked")
    private int again() {
        if (kept == null) {
            return -3;
        }
        tap = ((Tap) kept[0]).copy();
        laws = ((E[]) kept[1]).clone();
        told = (Integer) kept[2];
        records = new ArrayList<>((List<List<Integer>>) kept[3]);
        return 1;
    }

    private long rowCall(String name, int a, int b) {
        List<Integer> row = tap.row;
        int m = row.size();
        switch (name) {
            case "tell":
                if (!in(a, 1, 9999)) {
                    return -1;
                }
                if (m >= 60) {
                    return -2;
                }
                row.add(a);
                return m + 1;
            case "clear":
                row.clear();
                return m;
            case "time":
                return in(a, 0, m - 1) ? row.get(a) : -3;
            case "period":
                return period(row);
            case "kind":
                return kind(row);
            case "order":
                for (int k = 1; k <= 4; k++) {
                    java.util.Map<List<Integer>, Integer> behind = new java.util.HashMap<>();
                    boolean same = true;
                    for (int i = 0; i + k < m; i++) {
                        Integer other = behind.putIfAbsent(row.subList(i, i + k), row.get(i + k));
                        same &= other == null || other.equals(row.get(i + k));
                    }
                    if (same) {
                        return k;
                    }
                }
                return 0;
            case "hits":
                if (!in(a, 1, 9) || !in(b, 0, 9999)) {
                    return -1;
                }
                int hits = 0;
                for (int i = 1; i + a < m; i++) {
                    hits += Math.abs(toldAhead(row, i, a) - row.get(i + a)) <= b ? 1 : 0;
                }
                return hits;
            case "ahead":
                return !in(a, 1, 9) ? -1 : m < 2 ? -3 : toldAhead(row, m - 1, a);
            case "rule":
                if (!in(a, 0, 9999) || !in(b, 0, 1)) {
                    return -1;
                }
                int all = 0, like = 0;
                for (int i = 0; i < m - 1; i++) {
                    for (int j = i + 1; j < m - 1; j++) {
                        if (Math.abs(row.get(i) - row.get(j)) <= a) {
                            all++;
                            like += Math.abs(row.get(i + 1) - row.get(j + 1)) <= a ? 1 : 0;
                        }
                    }
                }
                if (all == 0) {
                    return -3;
                }
                int g = java.math.BigInteger.valueOf(all).gcd(java.math.BigInteger.valueOf(like)).intValue();
                return (b == 0 ? like : all) / g;
            case "drift":
                if (m < 2 || !in(a, 0, m - 1)) {
                    return -3;
                }
                return row.get(a) - row.get(0) - (row.get(m - 1) - row.get(0)) * a / (m - 1) + 20000;
            case "span":
                if (!in(a, 0, 2)) {
                    return -1;
                }
                if (m == 0) {
                    return -3;
                }
                var s = row.stream().mapToInt(v -> v).summaryStatistics();
                return a == 0 ? s.getMin() : a == 1 ? s.getMax() : s.getSum();
            default:
                return Long.MIN_VALUE;
        }
    }

    private long trialCall(String name, int a, int b, int c) {
        switch (name) {
            case "grid":
                return in(a, 0, 99) ? period(trial(400, a, 0, 0).row) : -1;
            case "doubling":
            case "windows":
                if (!in(a, 0, 99) || !in(b, a, 99) || b - a > 20) {
                    return -1;
                }
                int windows = 0, doubling = -3;
                for (int k = b, behind = 0; k >= a; k--) {
                    int p = period(trial(400, k, 0, 0).row);
                    windows += p == 3 ? 1 : 0;
                    doubling = p > 0 && behind == 2 * p ? k + 1 : doubling;
                    behind = p;
                }
                return name.equals("windows") ? windows : doubling;
            case "touch":
                if (!in(a, 1, 400)) {
                    return -1;
                }
                for (int i = 0; i <= 60; i++) {
                    int v = i % 2 == 1 ? (i + 1) / 2 : -i / 2;
                    if (kind(trial(a, tap.knob, v, 0).row) == 1) {
                        return 100 + v;
                    }
                }
                return -3;
            case "lost":
                if (!in(a, 0, 999)) {
                    return -1;
                }
                List<Integer> one = trial(400, tap.knob, 0, 0).row, other = trial(400, tap.knob, 0, a).row;
                int unlike = Arrays.mismatch(one.toArray(), other.toArray());
                return unlike < 0 ? -3 : unlike;
            case "prove":
                if (!in(a, 1, 12)) {
                    return -1;
                }
                proved.clear();
                for (int[] drop : trial(400, tap.knob, 0, 0).fallen) {
                    if (proved.size() < a) {
                        proved.add(drop);
                    }
                }
                return proved.size();
            case "row":
            case "alterRow":
                if (!in(a, 0, proved.size() - 1) || !in(b, 0, 1)) {
                    return -9;
                }
                int was = proved.get(a)[b];
                if (name.equals("alterRow")) {
                    proved.get(a)[b] = c;
                }
                return was;
            case "judge":
                List<int[]> due = trial(400, tap.knob, 0, 0).fallen;
                for (int i = 0; i < proved.size(); i++) {
                    if (i >= due.size() || !Arrays.equals(due.get(i), proved.get(i))) {
                        return i + 1;
                    }
                }
                return 0;
            default:
                return Long.MIN_VALUE;
        }
    }

    private long hostCall(String name, int a, int b, int c) {
        switch (name) {
            case "record":
                if (records.size() >= 6) {
                    return -2;
                }
                records.add(List.copyOf(tap.row));
                return records.size() - 1;
            case "recorded":
                if (!in(a, 0, records.size() - 1) || b < 0 || b - 3 >= records.get(a).size()) {
                    return -1;
                }
                List<Integer> r = records.get(a);
                return b == 0 ? kind(r) : b == 1 ? r.size() : b == 2 ? period(r) : r.get(b - 3);
            case "alike":
                if (!in(a, 0, records.size() - 1) || !in(b, 0, records.size() - 1)) {
                    return -1;
                }
                int alike = 0;
                for (int i = 0; i < Math.min(records.get(a).size(), records.get(b).size()); i++) {
                    alike += records.get(a).get(i).equals(records.get(b).get(i)) ? 1 : 0;
                }
                return alike;
            case "sheet":
                if (!in(a, 0, 3) || !in(b, -1, 4)) {
                    return -1;
                }
                if (b >= 0 && c > 40) {
                    return -1;
                }
                if (b >= 0 && c < 0) {
                    return -14;
                }
                sheets[a] = b < 0 ? null : java.lang.reflect.Array.newInstance(SORTS[b].getComponentType(), c);
                return 1;
            case "put":
                return putItem(a, b, c);
            case "item":
                if (!in(a, 0, 3) || !in(b, 0, 4)) {
                    return -1;
                }
                return itemOf(checked(sheets[a], b), c);
            case "times":
                if (!in(a, 0, 3) || !in(c, 0, 40)) {
                    return -1;
                }
                short[] shorts = (short[]) checked(sheets[a], 1);
                int came = 0;
                for (long i = b; i < (long) b + c; i++) {
                    inside(shorts, (int) Math.min(i, 1000));
                    came += rowCall("tell", shorts[(int) i], 0) > 0 ? 1 : 0;
                }
                return came;
            case "shelf":
                return shelve(a, b, c);
            case "taken":
                return takenOf(a, b);
            case "act":
                trace.clear();
                Thing t = in(a, 0, 3) ? thing(shelves[a]) : null;
                if (t == null || !in(b, 0, 3)) {
                    return 0;
                }
                return b == 0 ? t.grows(c) : b == 1 ? t.swings(c) : b == 2 ? t.parts(c) : t.tells(c);
            case "trace":
                return in(a, 0, Math.min(30, trace.size()) - 1) ? trace.get(a) : -3;
            case "many":
                return in(a, 0, 5) ? new int[] {tap.row.size(), records.size(), proved.size(), tape.length(),
                    Math.min(30, trace.size()), told}[a] : -1;
            default:
                throw new IllegalArgumentException(name);
        }
    }

    private int putItem(int a, int i, int v) {
        if (!in(a, 0, 3)) {
            return -1;
        }
        Object row = sheets[a];
        if (row == null) {
            return -11;
        }
        inside(row, i);
        if (row instanceof byte[]) {
            ((byte[]) row)[i] = (byte) v;
        } else if (row instanceof short[]) {
            ((short[]) row)[i] = (short) v;
        } else if (row instanceof int[]) {
            ((int[]) row)[i] = v;
        } else if (row instanceof long[]) {
            ((long[]) row)[i] = v;
        } else {
            ((boolean[]) row)[i] = v != 0;
        }
        return 1;
    }

    private static int itemOf(Object row, int i) {
        inside(row, i);
        if (row instanceof boolean[]) {
            return ((boolean[]) row)[i] ? 1 : 0;
        }
        return (int) java.lang.reflect.Array.getLong(row, i);
    }

    private int shelve(int a, int what, int n) {
        if (!in(a, 0, 3) || !in(what, 0, 3)) {
            return -1;
        }
        if (!in(n, 0, new int[] {records.size() - 1, 3, 3, n}[what]) && what != 3) {
            return -1;
        }
        shelves[a] = what == 3 ? null
                : what == 2 ? sheets[n] == null ? null : new Shelved(sheets[n]) : new int[] {what, n};
        return 1;
    }

    private int takenOf(int a, int as) {
        if (!in(a, 0, 3) || !in(as, 0, 7) && !in(as, 10, 14)) {
            return -1;
        }
        if (shelves[a] instanceof Shelved) {
            Object row = ((Shelved) shelves[a]).row;
            return as < 10 ? -13 : length(checked(row, as - 10));
        }
        Thing t = thing(shelves[a]);
        if (t == null) {
            return -11;
        }
        return as < 10 && KINDS[as].isInstance(t) ? t.n : -13;
    }
}
