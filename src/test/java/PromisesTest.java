import java.lang.reflect.Modifier;
import java.util.Set;
import java.util.TreeSet;

/** For each promise of ../shared/DOC.md what is due, worked out by hand. */
public final class PromisesTest {
    private static int promise = 0;
    private static int asked = 0;
    private static int wrong = 0;

    private static void due(String call, long got, long want) {
        asked++;
        if (got != want) {
            wrong++;
            System.out.println("promise " + promise + ": " + call + " answered " + got + ", due is " + want);
        }
    }

    public static void main(String[] args) throws Exception {
        face();
        aNewObject();
        begin();
        set();
        seed();
        run();
        tick();
        tap();
        water();
        feed();
        read();
        faults();
        says();
        tell();
        clear();
        time();
        period();
        kind();
        order();
        hits();
        ahead();
        rule();
        drift();
        span();
        grid();
        doubling();
        windows();
        touch();
        lost();
        prove();
        row();
        alterRow();
        judge();
        record();
        recorded();
        alike();
        sheet();
        put();
        item();
        times();
        shelf();
        taken();
        act();
        trace();
        many();
        keep();
        again();
        System.out.println(asked + " answers asked, " + wrong + " of them not as due");
        if (wrong != 0) {
            System.exit(1);
        }
    }

    // ---- helpers

    private static void dueRead(UnevenTap t, String text, int want) {
        Edges.feedText(t, text);
        due("read() of '" + text + "'", t.read(), want);
    }

    /** A tap under laws that are right. */
    private static UnevenTap under(String laws) {
        UnevenTap t = new UnevenTap();
        Edges.feedText(t, laws);
        if (t.read() < 0) {
            throw new IllegalArgumentException(laws);
        }
        return t;
    }

    private static void tellAll(UnevenTap t, int... times) {
        t.clear();
        for (int time : times) {
            t.tell(time);
        }
    }

    private static UnevenTap withRow(int... times) {
        UnevenTap t = new UnevenTap();
        tellAll(t, times);
        return t;
    }

    /** Records 0 to 5: even, twos, fours, windowed, muddled, running. */
    private static UnevenTap withRecords() {
        UnevenTap t = new UnevenTap();
        tellAll(t, 5, 5, 5, 5, 5);
        t.record();
        tellAll(t, 4, 6, 4, 6, 4, 6, 4, 6);
        t.record();
        tellAll(t, 1, 2, 3, 4, 1, 2, 3, 4, 1, 2, 3, 4, 1, 2, 3, 4);
        t.record();
        tellAll(t, 3, 4, 5, 3, 4, 5, 3, 4, 5, 3, 4, 5, 3, 4, 5);
        t.record();
        tellAll(t, 7, 1, 9, 2);
        t.record();
        tellAll(t);
        t.record();
        return t;
    }

    private static void dueTrace(UnevenTap t, int... bodies) {
        due("many(4)", t.many(4), bodies.length);
        for (int i = 0; i < bodies.length; i++) {
            due("trace(" + i + ")", t.trace(i), bodies[i]);
        }
        due("trace(" + bodies.length + ")", t.trace(bodies.length), UnevenTap.NONE);
    }

    // ---- the face

    private static void face() {
        promise = 0;
        due("BAD", UnevenTap.BAD, -1);
        due("FULL", UnevenTap.FULL, -2);
        due("NONE", UnevenTap.NONE, -3);
        due("STATE", UnevenTap.STATE, -4);
        Set<String> names = new TreeSet<>();
        for (var m : UnevenTap.class.getDeclaredMethods()) {
            if (Modifier.isPublic(m.getModifiers())) {
                names.add(m.getName());
                due(m.getName() + " is static", Modifier.isStatic(m.getModifiers()) ? 1 : 0, 0);
            }
        }
        Set<String> told = new TreeSet<>(Set.of("begin", "set", "seed", "run", "tap", "water", "feed", "read", "says",
                "tell", "clear", "time", "period", "kind", "order", "hits", "ahead", "rule", "drift", "span", "grid",
                "doubling", "windows", "touch", "lost", "prove", "row", "alterRow", "judge", "record", "recorded",
                "alike", "sheet", "put", "item", "times", "shelf", "taken", "act", "trace", "many", "keep", "again"));
        due("the public methods are those told", names.equals(told) ? 1 : 0, 1);
        due("final", Modifier.isFinal(UnevenTap.class.getModifiers()) ? 1 : 0, 1);
    }

    private static void aNewObject() {
        promise = 1;
        UnevenTap t = new UnevenTap();
        int[] first = {0, 10000, 10000, 0, 0, 0, 10, 0, -1};
        for (int what = 0; what < first.length; what++) {
            due("tap(" + what + ")", t.tap(what), first[what]);
        }
        for (int what = 0; what < 6; what++) {
            due("many(" + what + ")", t.many(what), 0);
        }
        due("seed(3)", t.seed(3), 1);
        due("water()", t.water(), 0);
        due("again()", t.again(), -3);
        due("item(0, 0, 0)", t.item(0, 0, 0), -11);
        due("taken(3, 0)", t.taken(3, 0), -11);
        t.begin(50, 40, 0);
        due("says(0), knob", t.says(0), 10);
        due("says(1), sway / 4", t.says(1), 10);
        due("says(2), weight > 100", t.says(2), 0);
        due("says(3), weight / 5 + sway", t.says(3), 50);
        t.begin(101, -6, 0);
        due("says(1), cut", t.says(1), -1);
        due("says(2)", t.says(2), 1);
        due("says(3)", t.says(3), 14);
    }

    // ---- the tap

    private static void begin() {
        promise = 2;
        UnevenTap t = new UnevenTap();
        t.set(0, 33);
        t.set(1, 7);
        t.seed(99);
        t.run(50);
        t.tell(9);
        t.record();
        long z = t.seed(99);
        t.seed((int) z);
        due("begin(9999, 999, -999)", t.begin(9999, 999, -999), 1);
        int[] then = {9999, 10999, 9001, 0, 0, 0, 33, 7};
        for (int what = 0; what < then.length; what++) {
            due("tap(" + what + ")", t.tap(what), then[what]);
        }
        due("many(0)", t.many(0), 0);
        due("many(1), records stay", t.many(1), 1);
        due("z stays", t.seed(1), z);
        due("water()", t.water(), 0);
        due("begin(0, -999, 999)", t.begin(0, -999, 999), 1);
        due("begin(-1, 0, 0)", t.begin(-1, 0, 0), -1);
        due("begin(10000, 0, 0)", t.begin(10000, 0, 0), -1);
        due("begin(0, -1000, 0)", t.begin(0, -1000, 0), -1);
        due("begin(0, 1000, 0)", t.begin(0, 1000, 0), -1);
        due("begin(0, 0, -1000)", t.begin(0, 0, -1000), -1);
        due("begin(0, 0, 1000)", t.begin(0, 0, 1000), -1);
        due("a refused begin changes nothing", t.tap(1), 9001);
        due("a refused begin changes nothing", t.tap(2), 10999);
        t = under("flow 3 ;");
        t.begin(0, 0, 0);
        due("laws stay", t.says(0), 3);
    }

    private static void set() {
        promise = 3;
        UnevenTap t = new UnevenTap();
        due("set(0, 99)", t.set(0, 99), 10);
        due("set(0, 0)", t.set(0, 0), 99);
        due("set(1, 99)", t.set(1, 99), 0);
        due("set(1, 0)", t.set(1, 0), 99);
        due("set(0, 100)", t.set(0, 100), -1);
        due("set(0, -1)", t.set(0, -1), -1);
        due("set(1, 100)", t.set(1, 100), -1);
        due("set(1, -1)", t.set(1, -1), -1);
        due("set(2, 1)", t.set(2, 1), -1);
        due("set(-1, 1)", t.set(-1, 1), -1);
        due("tap(6)", t.tap(6), 0);
        due("tap(7)", t.tap(7), 0);
        t.set(0, 44);
        due("says(0) by the knob", t.says(0), 44);
    }

    private static void seed() {
        promise = 4;
        UnevenTap t = under("flow 0 ; pull 0 ; goes 0 ;");
        t.run(3);
        due("no shake leaves z", t.seed(1), 1);
        t.set(1, 5);
        t.run(1);
        // z is 1103515245 + 12345; 16838 by 11 leaves 8; less 5 that is 3
        due("tap(2)", t.tap(2), 10003);
        due("tap(1)", t.tap(1), 10003);
        due("seed(MIN)", t.seed(Integer.MIN_VALUE), 1103527590);
        due("seed(-7)", t.seed(-7), Integer.MIN_VALUE);
        t.begin(0, 0, 0);
        t.run(1);
        // -7 * 1103515245 + 12345 wraps to 865340222; its upper half by 11 leaves 4; less 5 that is -1
        due("tap(2)", t.tap(2), 9999);
        due("seed(0)", t.seed(0), 865340222);
        t.begin(0, 0, 0);
        t.set(1, 99);
        t.run(1);
        // from 0 z is 12345, of which the upper half is 0
        due("the least of a shake", t.tap(2), 10000 - 99);
        t.set(1, 3);
        t.seed(1);
        t.begin(0, 0, 0);
        t.run(1);
        // 16838 by 7 leaves 3
        due("by twice the shake and 1", t.tap(2), 10000);
    }

    private static void run() {
        promise = 5;
        UnevenTap t = new UnevenTap();
        due("run(0)", t.run(0), 0);
        due("run(-1)", t.run(-1), -1);
        due("run(401)", t.run(401), -1);
        due("refused runs change nothing", t.tap(3), 0);
        due("run(10)", t.run(10), 0);
        due("run(1)", t.run(1), 1);
        t = under("flow 1 ; pull 0 ; goes 1 ; left 0 ;");
        due("run(400)", t.run(400), 400);
        due("tap(5)", t.tap(5), 400);
        due("the row holds 60", t.many(0), 60);
        due("run(5)", t.run(5), 5);
        due("tap(3)", t.tap(3), 405);
    }

    private static void tick() {
        promise = 5;
        UnevenTap t = under("flow 2000 ; goes 0 ;");
        t.run(1);
        due("flow is held to 999", t.tap(0), 999);
        t = under("flow - 5 ; goes 0 ;");
        t.begin(7, 0, 0);
        t.run(2);
        due("flow is held to 0", t.tap(0), 7);
        t = under("flow 999 ; goes 0 ;");
        t.run(101);
        due("weight is held to 99999", t.tap(0), 99999);
        t = under("flow 0 ; pull 5000 ; goes 0 ;");
        t.run(1);
        due("pull is held to 999", t.tap(2), 9001);
        due("sway", t.tap(1), 9001);
        t.run(1);
        due("sway is held to -999", t.tap(1), 9001);
        due("speed is 0 then", t.tap(2), 10000);
        t = under("flow 0 ; pull - 9999 ; goes 0 ;");
        t.begin(0, 1, 998);
        t.run(1);
        due("speed is held to 999, sway then too", t.tap(1), 10999);
        due("speed is 0 then", t.tap(2), 10000);
        t.begin(0, -900, 998);
        t.run(1);
        due("speed is held to 999", t.tap(2), 10999);
        due("sway goes by the held speed", t.tap(1), 10099);
        t = under("flow 0 ; pull 9999 ; goes 0 ;");
        t.begin(0, 950, -998);
        t.run(1);
        due("speed is held to -999", t.tap(2), 9001);
        due("sway goes by the held speed", t.tap(1), 9951);
        t = under("flow tick ; goes 0 ;");
        t.run(3);
        due("flow sees the tick already", t.tap(0), 6);
        t = under("flow 10 * since ; goes since = 2 ; left 0 ;");
        t.run(3);
        due("flow sees since already", t.tap(0), 10);
        t = under("flow 7 ; pull weight ; goes 0 ;");
        t.run(2);
        due("pull sees the new weight", t.tap(2), 10000 - 7 - 14);
        due("sway goes by the new speed", t.tap(1), 10000 - 7 - 21);
        t = under("flow 0 ; pull 0 ; goes sway = 6 ; left 0 ;");
        t.begin(0, 0, 3);
        due("goes sees the new sway", t.run(2), 1);
        due("sway springs back", t.tap(1), 10000 - 3);
        due("speed springs back, halved and cut", t.tap(2), 10000 - 1);
        due("since is 0", t.tap(4), 0);
        t = under("flow 10 ; pull 0 ; goes since = 5 ; left since + drops ;");
        t.run(10);
        due("left sees since and drops as they were", t.tap(0), 6);
        t = under("flow 10 ; pull 0 ; goes 1 ; left 9999 ;");
        t.run(2);
        due("left is held to weight", t.tap(0), 20);
        t = under("flow 10 ; pull 0 ; goes - 1 ; left - 3 ;");
        due("whatever isn't 0 goes", t.run(2), 2);
        due("left is held to 0", t.tap(0), 0);
        due("a time", t.time(0), 1);
        t = under("pull 0 ; goes since = 3 ;");
        t.run(9);
        due("since begins anew with each drop", t.many(0), 3);
        due("since begins anew with each drop", t.time(2), 3);
        due("since", t.tap(4), 0);
    }

    private static void tap() {
        promise = 6;
        UnevenTap t = under("flow 10 ; pull 0 ; goes since = 5 ; left 7 ;");
        t.begin(4, -9, -2);
        t.set(0, 5);
        t.run(7);
        t.set(1, 6);
        // 5 ticks: sway -19, speed -2; a drop: 9 and 1; 2 ticks more: 11
        int[] then = {27, 10011, 10001, 7, 2, 1, 5, 6};
        for (int what = 0; what < then.length; what++) {
            due("tap(" + what + ")", t.tap(what), then[what]);
        }
        due("tap(8)", t.tap(8), -1);
        due("tap(-1)", t.tap(-1), -1);
    }

    private static void water() {
        promise = 7;
        UnevenTap t = new UnevenTap();
        t.begin(500, 3, 4);
        t.run(300);
        due("nothing is lost", t.water(), 0);
        t = under("flow 999 ; goes 0 ;");
        t.run(101);
        due("what was beyond 99999", t.water(), 101 * 999 - 99999);
        t.run(400);
        due("what was beyond 99999", t.water(), 501 * 999 - 99999);
        t.begin(40, 0, 0);
        due("it begins anew", t.water(), 0);
    }

    // ---- laws

    private static void feed() {
        promise = 8;
        UnevenTap t = new UnevenTap();
        due("feed(0, 0)", t.feed(0, 0), -1);
        due("feed(0, 9)", t.feed(0, 9), -1);
        due("feed(0, -1)", t.feed(0, -1), -1);
        due("feed(-1, 8)", t.feed(-1, 8), 8);
        due("feed(-1, 1)", t.feed(-1, 1), 9);
        for (int i = 0; i < 23; i++) {
            t.feed(0, 8);
        }
        due("many(3)", t.many(3), 193);
        due("feed(0, 8)", t.feed(0, 8), -2);
        due("feed(0, 9)", t.feed(0, 9), -1);
        due("feed(0, 7)", t.feed(0, 7), 200);
        due("feed(0, 1)", t.feed(0, 1), -2);
        due("read()", t.read(), -100);
        due("it is used up", t.many(3), 0);
        t.feed('f' | 'l' << 8 | 'o' << 16 | (long) 'w' << 24 | (long) '8' << 32 | (long) ';' << 40 | -1L << 48, 6);
        due("the lowest byte is first", t.read(), 1);
        due("says(0)", t.says(0), 8);
    }

    private static void read() {
        promise = 9;
        UnevenTap t = new UnevenTap();
        dueRead(t, "flow 1 ; pull 2 ; goes 3 ; left 4 ;", 4);
        for (int key = 0; key < 4; key++) {
            due("says(" + key + ")", t.says(key), key + 1);
        }
        dueRead(t, "goes 5;goes 6;", 1);
        due("the last one counts", t.says(2), 6);
        due("the others are as at first", t.says(0), 10);
        due("many(5)", t.many(5), 1);
        dueRead(t, "flow 7 ; rain 8 ;", -109);
        due("a fault changes nothing", t.says(2), 6);
        due("a fault changes nothing", t.says(0), 10);
        due("a fault changes nothing", t.many(5), 1);
        due("it is used up", t.many(3), 0);
        dueRead(t, "", 0);
        due("says(2)", t.says(2), 0);
        dueRead(t, "   ", 0);
        dueRead(t, "flow(1);", 1);
        dueRead(t, "flow5;pull6-flow;", -112);
        dueRead(t, "left2*3;", 1);
        due("says(3)", t.says(3), 6);
        dueRead(t, "flow 1;flow 2;flow 3;flow 4;flow 5;flow 6;flow 7;pull 8;", 2);
        due("says(0)", t.says(0), 7);
        dueRead(t, "  flow  1  ;  ", 1);
        StringBuilder longest = new StringBuilder("flow 1");
        while (longest.length() < 197) {
            longest.append("+1");
        }
        dueRead(t, longest.append(" ; ").toString().substring(0, 200), 1);
        due("says(0)", t.says(0), 97);
    }

    private static void faults() {
        promise = 9;
        UnevenTap t = new UnevenTap();
        dueRead(t, "flow", -104);
        dueRead(t, "flow  ", -106);
        dueRead(t, "flow 1", -106);
        dueRead(t, "flow 1 ", -107);
        dueRead(t, "flow ( 1 ", -109);
        dueRead(t, "flow 1 + ;", -109);
        dueRead(t, "flow 1 2 ;", -107);
        dueRead(t, "flow 1 weight ;", -107);
        dueRead(t, "flow 1 ) ;", -107);
        dueRead(t, "flow ( ) ;", -107);
        dueRead(t, "flow ( 1 ;", -109);
        dueRead(t, "flow flow ;", -105);
        dueRead(t, "flows 1 ;", -100);
        dueRead(t, "weight 1 ;", -100);
        dueRead(t, "; flow 1 ;", -100);
        dueRead(t, "flow 1 ; ;", -109);
        dueRead(t, "flow 9999 ;", 1);
        dueRead(t, "flow 0009 ;", 1);
        dueRead(t, "flow 00009 ;", -105);
        dueRead(t, "flow 1 12345 ;", -107);
        dueRead(t, "flow weigh ;", -105);
        dueRead(t, "flow weights ;", -105);
        dueRead(t, "flow weightz ;", -105);
        dueRead(t, "flow aweight ;", -105);
        dueRead(t, "flow weight{ ;", -111);
        dueRead(t, "flow weight` ;", -111);
        dueRead(t, "flow 1: ;", -106);
        dueRead(t, "flow Weight ;", -105);
        dueRead(t, "flow weiGht ;", -105);
        dueRead(t, "flow 1 & 2 ;", -107);
        dueRead(t, "flow + 1 ;", -105);
        dueRead(t, "flow 1 < 2 < 3 ;", -111);
        dueRead(t, "flow 1 < 2 = 3 ;", -111);
        dueRead(t, "flow ( 1 < 2 ) < ( 3 = 4 ) ;", 1);
        dueRead(t, "flow ( 1 < 2 > 3 ) ;", -113);
        dueRead(t, "flow ----1;", 1);
        dueRead(t, "flow -----1;", -109);
        dueRead(t, "flow ((((1))));", 1);
        dueRead(t, "flow (((((1)))));", -109);
        dueRead(t, "flow -(-(1));", 1);
        dueRead(t, "flow -(-(-1));", -109);
        dueRead(t, "flow 1-----1;", 1);
        dueRead(t, "flow 1------1;", -111);
        dueRead(t, "flow ----1-----1;", 1);
        dueRead(t, "flow ((((1))))+((((1))))*----1;", 1);
        dueRead(t, "flow ((((1)))", -113);
        dueRead(t, "flow 1;flow 2;flow 3;flow 4;flow 5;flow 6;flow 7;flow 8;flow 9;", -156);
        dueRead(t, "flow 1;flow 2;flow 3;flow 4;flow 5;flow 6;flow 7;flow 8;  ", 1);
        dueRead(t, "flow 1;flow 2;flow 3;flow 4;flow 5;flow 6;flow 7;flow 8;;", -156);
        dueRead(t, "flow\t1;", -104);
        dueRead(t, "flow 1\u00e9;", -106);
        dueRead(t, "\u0000", -100);
        for (int i = 0; i < 25; i++) {
            t.feed(0x2020202020202020L, 8);
        }
        due("200 blanks", t.read(), 0);
        StringBuilder text = new StringBuilder("flow 1");
        while (text.length() < 200) {
            text.append("+1");
        }
        dueRead(t, text.toString(), -300);
    }

    private static void says() {
        promise = 10;
        UnevenTap t = under("flow weight + sway * 10 + speed * 100 ; pull tick * 1000 + since * 100 + drops * 10 + knob ;"
                + " goes since = 2 ; left 9 ;");
        t.begin(1, 2, 3);
        due("says(0)", t.says(0), 321);
        due("says(1)", t.says(1), 10);
        due("says(4)", t.says(4), 0);
        due("says(-1)", t.says(-1), 0);
        String[] es = {"7 - 2 - 1", "4", "7 / 2 * 2", "6", "- 7 / 2", "-3", "- 7 % 4", "-3", "7 % - 4", "3",
            "9 / 0", "0", "9 % 0", "0", "2 + 3 * 4", "14", "( 2 + 3 ) * 4", "20", "1 < 2", "1", "2 < 2", "0",
            "2 = 2", "1", "2 = 3", "0", "3 > 2", "1", "2 > 2", "0", "1 + 1 > 1 * 1", "1", "- 2 * - 3", "6",
            "2 - - 3", "5", "- ( 1 + 2 )", "-3", "9999 * 9999 * 9999", "-1027349969",
            "0 - 8192 * 8192 * 32", "-2147483648", "( 0 - 8192 * 8192 * 32 ) / - 1", "-2147483648",
            "( 0 - 8192 * 8192 * 32 ) % - 1", "0", "( 1 < 2 ) + ( 2 > 1 )", "2", "100 - 20 % 7 * 2", "88"};
        for (int i = 0; i < es.length; i += 2) {
            dueRead(t, "pull " + es[i] + ";", 1);
            due("says(1) of " + es[i], t.says(1), Integer.parseInt(es[i + 1]));
        }
    }

    // ---- the row

    private static void tell() {
        promise = 11;
        UnevenTap t = new UnevenTap();
        due("tell(0)", t.tell(0), -1);
        due("tell(10000)", t.tell(10000), -1);
        due("tell(1)", t.tell(1), 1);
        due("tell(9999)", t.tell(9999), 2);
        for (int i = 3; i <= 60; i++) {
            due("tell(7)", t.tell(7), i);
        }
        due("tell(7)", t.tell(7), -2);
        due("tell(0)", t.tell(0), -1);
        due("many(0)", t.many(0), 60);
    }

    private static void clear() {
        promise = 12;
        UnevenTap t = withRow(4, 5, 6);
        due("clear()", t.clear(), 3);
        due("clear()", t.clear(), 0);
        due("many(0)", t.many(0), 0);
        due("tell(8)", t.tell(8), 1);
        due("time(0)", t.time(0), 8);
    }

    private static void time() {
        promise = 13;
        UnevenTap t = withRow(4, 5, 6);
        due("time(0)", t.time(0), 4);
        due("time(2)", t.time(2), 6);
        due("time(3)", t.time(3), -3);
        due("time(-1)", t.time(-1), -3);
        due("time(MIN)", t.time(Integer.MIN_VALUE), -3);
        t = under("flow 1 ; goes since = 9 ;");
        t.tell(3);
        t.run(20);
        due("time(1)", t.time(1), 9);
        due("time(2)", t.time(2), 9);
    }

    private static void period() {
        promise = 14;
        due("period() of none", withRow().period(), 0);
        due("period() of one", withRow(5).period(), 0);
        due("period() of two", withRow(5, 5).period(), 0);
        due("period() of three", withRow(5, 5, 5).period(), 1);
        due("only the latter half counts", withRow(9, 5, 5).period(), 1);
        due("the latter half has the middle one", withRow(5, 9, 5).period(), 0);
        due("not above half of it", withRow(1, 2, 1, 2, 1).period(), 0);
        due("half of it", withRow(1, 2, 1, 2, 1, 2).period(), 0);
        due("half of it", withRow(1, 2, 1, 2, 1, 2, 1).period(), 2);
        for (int p = 1; p <= 9; p++) {
            UnevenTap t = new UnevenTap();
            for (int i = 0; i < 40; i++) {
                t.tell(1 + i % p);
            }
            due("period() of " + p, t.period(), p == 9 ? 0 : p);
        }
    }

    private static void kind() {
        promise = 15;
        due("kind() of none", withRow().kind(), 6);
        due("kind() of one", withRow(1).kind(), 5);
        int[] kinds = {1, 2, 4, 3, 5, 5, 5, 5, 5};
        for (int p = 1; p <= 9; p++) {
            UnevenTap t = new UnevenTap();
            for (int i = 0; i < 40; i++) {
                t.tell(1 + i % p);
            }
            due("kind() of " + p, t.kind(), kinds[p - 1]);
        }
    }

    private static void order() {
        promise = 16;
        due("order() of none", withRow().order(), 1);
        due("order()", withRow(4, 6, 4, 6, 4).order(), 1);
        due("the last one has nothing behind", withRow(4, 6, 4).order(), 1);
        due("order()", withRow(1, 1, 2, 1, 1, 2, 1).order(), 2);
        due("order()", withRow(1, 1, 2).order(), 2);
        due("order()", withRow(3, 3, 3, 3).order(), 1);
        due("order()", withRow(1, 2, 3, 1, 2, 4).order(), 3);
        due("order()", withRow(5, 1, 2, 3, 6, 1, 2, 3, 7).order(), 4);
        due("order()", withRow(5, 9, 1, 2, 3, 6, 9, 1, 2, 3, 7).order(), 0);
    }

    private static void hits() {
        promise = 17;
        UnevenTap t = withRow(10, 20, 12, 24, 11, 21);
        // by 1: i = 1: 20 (12); 2: at 10, told 20 (24); 3: at 20, told 12 (11); 4: 10 and 12 are as near, told 24 (21)
        due("hits(1, 0)", t.hits(1, 0), 0);
        due("hits(1, 1)", t.hits(1, 1), 1);
        due("hits(1, 3)", t.hits(1, 3), 2);
        due("hits(1, 4)", t.hits(1, 4), 3);
        due("hits(1, 9999)", t.hits(1, 9999), 4);
        // by 2: i = 1: 20, then 20 again (24); 2: 20, then 12 (11); 3: 12, then 24 (21)
        due("hits(2, 0)", t.hits(2, 0), 0);
        due("hits(2, 1)", t.hits(2, 1), 1);
        due("hits(2, 3)", t.hits(2, 3), 2);
        due("hits(2, 4)", t.hits(2, 4), 3);
        due("hits(5, 9999)", t.hits(5, 9999), 0);
        due("hits(0, 1)", t.hits(0, 1), -1);
        due("hits(10, 1)", t.hits(10, 1), -1);
        due("hits(1, -1)", t.hits(1, -1), -1);
        due("hits(1, 10000)", t.hits(1, 10000), -1);
        due("hits(9, 0) of none", withRow().hits(9, 0), 0);
    }

    private static void ahead() {
        promise = 18;
        UnevenTap t = withRow(10, 20, 12, 24, 11);
        due("ahead(1), the latest of the nearest", t.ahead(1), 24);
        due("ahead(2)", t.ahead(2), 11);
        due("ahead(3)", t.ahead(3), 24);
        due("ahead(0)", t.ahead(0), -1);
        due("ahead(10)", t.ahead(10), -1);
        due("ahead(9)", withRow(3, 4).ahead(9), 4);
        due("ahead(1) of one", withRow(3).ahead(1), -3);
        due("ahead(0) of one", withRow(3).ahead(0), -1);
    }

    private static void rule() {
        promise = 19;
        UnevenTap t = withRow(10, 20, 11, 23, 10, 21, 9);
        // within 1: 10 11 10 are three twos; behind: 20-23 no, 20-21 like, 23-21 no; 20-21: behind 11-9 no
        due("rule(1, 0)", t.rule(1, 0), 1);
        due("rule(1, 1)", t.rule(1, 1), 4);
        // within 2: the same four and 23-21; behind: 20-23 no, 20-21, 23-21, 11-9, 10-9
        due("rule(2, 0)", t.rule(2, 0), 4);
        due("rule(2, 1)", t.rule(2, 1), 5);
        due("lowest terms", withRow(5, 5, 5, 5, 5).rule(0, 0), 1);
        due("lowest terms", withRow(5, 5, 5, 5, 5).rule(0, 1), 1);
        due("0 is above the line", withRow(5, 1, 5, 9).rule(0, 0), 0);
        due("and 1 below it", withRow(5, 1, 5, 5, 9).rule(0, 1), 1);
        due("no such twos", withRow(1, 2, 3).rule(0, 0), -3);
        due("the first two alone", withRow(4, 4, 4).rule(0, 0), 1);
        due("the last has nothing behind", withRow(1, 2, 1).rule(0, 0), -3);
        due("rule of none", withRow().rule(9999, 1), -3);
        due("rule(-1, 0)", withRow().rule(-1, 0), -1);
        due("rule(10000, 0)", withRow().rule(10000, 0), -1);
        due("rule(0, 2)", withRow().rule(0, 2), -1);
        due("rule(0, -1)", withRow().rule(0, -1), -1);
    }

    private static void drift() {
        promise = 20;
        UnevenTap t = withRow(10, 30, 5, 17);
        due("drift(0)", t.drift(0), 20000);
        due("drift(1)", t.drift(1), 20000 + 20 - 2);
        due("drift(2)", t.drift(2), 20000 - 5 - 4);
        due("drift(3)", t.drift(3), 20000);
        due("drift(4)", t.drift(4), -3);
        due("drift(-1)", t.drift(-1), -3);
        due("cut towards 0", withRow(17, 30, 5, 10).drift(1), 20000 + 13 + 2);
        due("drift(0) of one", withRow(5).drift(0), -3);
        due("drift(1) of two", withRow(5, 9).drift(1), 20000);
        due("drift(0) of none", withRow().drift(0), -3);
    }

    private static void span() {
        promise = 21;
        UnevenTap t = withRow(10, 30, 5, 17);
        due("span(0)", t.span(0), 5);
        due("span(1)", t.span(1), 30);
        due("span(2)", t.span(2), 62);
        due("span(3)", t.span(3), -1);
        due("span(-1)", t.span(-1), -1);
        due("span(0) of none", withRow().span(0), -3);
        for (int what = 0; what < 3; what++) {
            due("span(" + what + ") of one", withRow(7).span(what), 7);
            due("span(" + what + ") of two", withRow(3, 9).span(what), what == 0 ? 3 : what == 1 ? 9 : 12);
            due("span(" + what + ") of two", withRow(9, 3).span(what), what == 0 ? 3 : what == 1 ? 9 : 12);
        }
        due("span(3) of none", withRow().span(3), -1);
    }

    // ---- what would be

    /** By its knob, from 1 to 8, that is the period; with 0 it is 1, beyond there is none. */
    private static UnevenTap byKnob() {
        return under("pull 0 ; goes since > 2 + drops % knob ;");
    }

    private static void grid() {
        promise = 22;
        UnevenTap t = byKnob();
        for (int knob = 1; knob <= 8; knob++) {
            due("grid(" + knob + ")", t.grid(knob), knob);
        }
        due("grid(0)", t.grid(0), 1);
        due("grid(9)", t.grid(9), 0);
        due("grid(-1)", t.grid(-1), -1);
        due("grid(100)", t.grid(100), -1);
        due("grid(99)", t.grid(99), 0);
        due("nothing changes", t.tap(3) + t.tap(5) + t.many(0), 0);
        due("nothing changes", t.tap(6), 10);
        t.tell(77);
        t.run(5);
        due("the row of a trial begins empty", t.grid(1), 1);
        due("the row stays", t.time(0), 77);
        t = under("pull 0 ; goes since = 200 ;");
        due("two drops in 400 ticks", t.grid(10), 0);
        t.run(199);
        due("since goes on: three drops, the first one later", t.grid(10), 0);
        t = under("pull 0 ; goes since = 133 ;");
        due("three drops in 400 ticks", t.grid(10), 1);
        t = under("pull 0 ; goes since = 134 ;");
        due("only two drops in 400 ticks", t.grid(10), 0);
    }

    private static void doubling() {
        promise = 23;
        UnevenTap t = byKnob();
        due("doubling(0, 20)", t.doubling(0, 20), 2);
        due("doubling(1, 2)", t.doubling(1, 2), 2);
        due("the first one counts as ahead only", t.doubling(2, 8), -3);
        due("doubling(5, 5)", t.doubling(5, 5), -3);
        due("none has twice none", t.doubling(10, 30), -3);
        due("doubling(0, 21)", t.doubling(0, 21), -1);
        due("doubling(3, 2)", t.doubling(3, 2), -1);
        due("doubling(-1, 2)", t.doubling(-1, 2), -1);
        due("doubling(90, 100)", t.doubling(90, 100), -1);
        due("doubling(MIN, MAX)", t.doubling(Integer.MIN_VALUE, Integer.MAX_VALUE), -1);
        t = under("pull 0 ; goes since > 2 + drops % ( 8 / ( 9 - knob ) ) ;");
        // the periods from 1 on: 1 1 1 1 2 2 4 8
        due("doubling(1, 8)", t.doubling(1, 8), 5);
        due("doubling(5, 8)", t.doubling(5, 8), 7);
        due("doubling(7, 8)", t.doubling(7, 8), 8);
    }

    private static void windows() {
        promise = 24;
        UnevenTap t = byKnob();
        due("windows(0, 20)", t.windows(0, 20), 1);
        due("windows(3, 3)", t.windows(3, 3), 1);
        due("windows(4, 20)", t.windows(4, 20), 0);
        due("windows(79, 99)", t.windows(79, 99), 0);
        due("windows(0, 21)", t.windows(0, 21), -1);
        due("windows(3, 2)", t.windows(3, 2), -1);
        due("windows(-1, 2)", t.windows(-1, 2), -1);
        due("windows(99, 100)", t.windows(99, 100), -1);
        t = under("pull 0 ; goes since > 2 + drops % ( 2 + knob % 2 ) ;");
        due("windows(1, 7)", t.windows(1, 7), 4);
        due("windows(2, 6)", t.windows(2, 6), 2);
    }

    /** Even if its speed is so ahead of the first tick, by threes if not. */
    private static UnevenTap evenIf(String speed) {
        return under("flow ( tick = 1 ) * ( " + speed + " ) ; pull 0 ; goes since > 2 + ( weight = 0 ) * ( drops % 3 ) ;"
                + " left weight ;");
    }

    private static void touch() {
        promise = 25;
        UnevenTap t = evenIf("speed > 4");
        due("touch(400)", t.touch(400), 105);
        t.begin(0, 0, 4);
        due("touch(400)", t.touch(400), 101);
        t.begin(0, 0, 7);
        due("touch(400)", t.touch(400), 100);
        t.begin(0, 0, -25);
        due("touch(400)", t.touch(400), 130);
        t.begin(0, 0, -26);
        due("touch(400)", t.touch(400), -3);
        due("nothing changes", t.tap(2), 10000 - 26);
        due("touch(0)", t.touch(0), -1);
        due("touch(401)", t.touch(401), -1);
        due("touch(1)", t.touch(1), -3);
        t = evenIf("speed < - 29");
        due("the least one", t.touch(400), 70);
        t = evenIf("( speed = 3 ) + ( speed = - 3 )");
        due("of two the one above 0", t.touch(400), 103);
        t = evenIf("( speed = 4 ) + ( speed = - 3 )");
        due("by size", t.touch(400), 97);
        t = evenIf("speed > 4");
        due("three drops are even", t.touch(9), 105);
        due("two are not", t.touch(8), -3);
        t.begin(0, 0, 999);
        Edges.feedText(t, "flow ( tick = 1 ) * ( speed > 1028 ) ; pull 0 ; goes since > 2 + ( weight = 0 ) * ( drops % 3 ) ; left weight ;");
        t.read();
        due("what is added isn't held ahead of the tick", t.touch(400), 130);
    }

    private static void lost() {
        promise = 26;
        UnevenTap t = under("flow 0 ; pull 0 ; goes since > 2 + ( weight > 10 ) * ( drops > 4 ) ; left weight ;");
        t.begin(5, 0, 0);
        due("lost(5)", t.lost(5), -3);
        due("lost(6)", t.lost(6), 5);
        due("lost(0)", t.lost(0), -3);
        due("lost(999)", t.lost(999), 5);
        due("lost(1000)", t.lost(1000), -1);
        due("lost(-1)", t.lost(-1), -1);
        due("nothing changes", t.tap(0) + t.many(0), 5);
        t = under("flow 0 ; pull 0 ; goes ( since > 2 ) * ( drops < 3 + ( weight > 10 ) ) ; left weight ;");
        t.begin(5, 0, 0);
        due("where one has none", t.lost(6), 3);
        t = under("flow 0 ; pull 0 ; goes ( since > 2 ) * ( drops < 3 - ( weight > 10 ) ) ; left weight ;");
        t.begin(5, 0, 0);
        due("where the other has none", t.lost(6), 2);
        t = under("flow 0 ; pull 0 ; goes since > 2 + ( weight > 10 ) * ( drops > 59 ) ; left weight ;");
        t.begin(5, 0, 0);
        due("beyond the 60th none is seen", t.lost(6), -3);
        t = under("flow 0 ; pull 0 ; goes since > 2 + ( weight > 10 ) * ( drops > 58 ) ; left weight ;");
        t.begin(5, 0, 0);
        due("the 60th is seen", t.lost(6), 59);
        t = under("flow 0 ; pull 0 ; goes since > 2 + ( weight > 10 ) ; left weight ;");
        t.begin(5, 0, 0);
        due("the first place", t.lost(6), 0);
        t.grid(3);
        due("each trial goes on from the tap as it is", t.lost(5), -3);
        t.run(2);
        due("since goes on", t.lost(6), 0);
        due("since goes on", t.lost(5), -3);
        t = under("flow 0 ; pull 0 ; goes since > 2 + ( weight > 9999 ) ; left weight ;");
        t.begin(9999, 0, 0);
        due("weight may be more than begin() takes", t.lost(1), 0);
    }

    // ---- rows

    private static UnevenTap byFives() {
        return under("flow 10 ; pull 0 ; goes since = 5 ; left 7 ;");
    }

    private static void prove() {
        promise = 27;
        UnevenTap t = byFives();
        due("prove(0)", t.prove(0), -1);
        due("prove(13)", t.prove(13), -1);
        due("prove(12)", t.prove(12), 12);
        due("prove(13)", t.prove(13), -1);
        due("a refused one changes nothing", t.many(2), 12);
        due("prove(1)", t.prove(1), 1);
        due("many(2)", t.many(2), 1);
        due("nothing changes", t.tap(3) + t.many(0), 0);
        t.run(2);
        t.grid(0);
        t.prove(1);
        due("a trial goes on from the tap, not from another trial", t.row(0, 1), 43);
        t = under("flow 1 ; pull 0 ; goes since = 100 ;");
        due("as many as come", t.prove(12), 4);
        t = under("goes 0 ;");
        due("none come", t.prove(12), 0);
        t = under("goes since = 400 ;");
        due("within 400 ticks", t.prove(12), 1);
        t = under("goes since = 401 ;");
        due("within 400 ticks", t.prove(12), 0);
    }

    private static void row() {
        promise = 28;
        UnevenTap t = byFives();
        due("row(0, 0)", t.row(0, 0), -9);
        t.run(2);
        t.prove(2);
        due("row(0, 0)", t.row(0, 0), 5);
        due("row(0, 1)", t.row(0, 1), 43);
        due("row(1, 0)", t.row(1, 0), 5);
        due("row(1, 1)", t.row(1, 1), 50);
        due("row(2, 0)", t.row(2, 0), -9);
        due("row(-1, 0)", t.row(-1, 0), -9);
        due("row(0, 2)", t.row(0, 2), -9);
        due("row(0, -1)", t.row(0, -1), -9);
    }

    private static void alterRow() {
        promise = 29;
        UnevenTap t = byFives();
        due("alterRow(0, 0, 4)", t.alterRow(0, 0, 4), -9);
        t.prove(2);
        due("alterRow(1, 1, MIN)", t.alterRow(1, 1, Integer.MIN_VALUE), 50);
        due("alterRow(1, 1, 6)", t.alterRow(1, 1, 6), Integer.MIN_VALUE);
        due("row(1, 1)", t.row(1, 1), 6);
        due("row(1, 0)", t.row(1, 0), 5);
        due("alterRow(0, 0, 9)", t.alterRow(0, 0, 9), 5);
        due("row(0, 0)", t.row(0, 0), 9);
        due("alterRow(2, 0, 1)", t.alterRow(2, 0, 1), -9);
        due("alterRow(-1, 0, 1)", t.alterRow(-1, 0, 1), -9);
        due("alterRow(0, 2, 1)", t.alterRow(0, 2, 1), -9);
        due("alterRow(0, -1, 1)", t.alterRow(0, -1, 1), -9);
    }

    private static void judge() {
        promise = 30;
        UnevenTap t = byFives();
        due("no rows are right", t.judge(), 0);
        t.prove(3);
        due("judge()", t.judge(), 0);
        t.alterRow(2, 1, 51);
        due("a weight", t.judge(), 3);
        t.alterRow(1, 0, 4);
        due("a time, the first one", t.judge(), 2);
        t.alterRow(1, 0, 5);
        t.alterRow(2, 1, 50);
        due("judge()", t.judge(), 0);
        t.run(4);
        due("judge() again", t.judge(), 0);
        due("the same drops are still ahead", t.judge(), 0);
        t.run(1);
        due("the first one, 43, is gone", t.judge(), 1);
        t = under("flow 10 ; pull 0 ; goes ( since = 100 ) * ( tick < 301 ) ; left 0 ;");
        t.prove(12);
        t.run(100);
        due("one fewer comes", t.judge(), 3);
        t = under("flow 0 ; pull 0 ; goes since = 400 ;");
        t.run(1);
        due("prove(1)", t.prove(1), 1);
        t.begin(0, 0, 0);
        due("its 400th tick counts", t.judge(), 0);
        t = under("flow 0 ; pull 0 ; goes since = 401 ;");
        t.run(1);
        due("prove(1)", t.prove(1), 1);
        t.begin(0, 0, 0);
        due("a 401st doesn't", t.judge(), 1);
    }

    // ---- records

    private static void record() {
        promise = 31;
        UnevenTap t = withRow(4, 5);
        for (int i = 0; i < 6; i++) {
            due("record()", t.record(), i);
        }
        due("record()", t.record(), -2);
        due("many(1)", t.many(1), 6);
        due("the row stays", t.many(0), 2);
        t.clear();
        due("the record stays", t.recorded(0, 4), 5);
    }

    private static void recorded() {
        promise = 32;
        UnevenTap t = withRecords();
        int[] kinds = {1, 2, 3, 4, 5, 6};
        int[] counts = {5, 8, 16, 15, 4, 0};
        int[] periods = {1, 2, 4, 3, 0, 0};
        for (int i = 0; i < 6; i++) {
            due("recorded(" + i + ", 0)", t.recorded(i, 0), kinds[i]);
            due("recorded(" + i + ", 1)", t.recorded(i, 1), counts[i]);
            due("recorded(" + i + ", 2)", t.recorded(i, 2), periods[i]);
        }
        due("recorded(4, 3)", t.recorded(4, 3), 7);
        due("recorded(4, 6)", t.recorded(4, 6), 2);
        due("recorded(4, 7)", t.recorded(4, 7), -1);
        due("recorded(4, -1)", t.recorded(4, -1), -1);
        due("recorded(4, MIN)", t.recorded(4, Integer.MIN_VALUE), -1);
        due("recorded(5, 3)", t.recorded(5, 3), -1);
        due("recorded(6, 0)", t.recorded(6, 0), -1);
        due("recorded(-1, 0)", t.recorded(-1, 0), -1);
    }

    private static void alike() {
        promise = 33;
        UnevenTap t = withRecords();
        due("alike(2, 3)", t.alike(2, 3), 2);
        due("alike(0, 3)", t.alike(0, 3), 1);
        due("alike(3, 0)", t.alike(3, 0), 1);
        due("alike(2, 2)", t.alike(2, 2), 16);
        due("alike(0, 5)", t.alike(0, 5), 0);
        due("alike(0, 6)", t.alike(0, 6), -1);
        due("alike(-1, 0)", t.alike(-1, 0), -1);
    }

    // ---- the host

    private static void sheet() {
        promise = 34;
        UnevenTap t = new UnevenTap();
        due("sheet(3, 4, 40)", t.sheet(3, 4, 40), 1);
        due("sheet(0, 0, 0)", t.sheet(0, 0, 0), 1);
        due("sheet(4, 0, 1)", t.sheet(4, 0, 1), -1);
        due("sheet(-1, 0, 1)", t.sheet(-1, 0, 1), -1);
        due("sheet(0, 5, 1)", t.sheet(0, 5, 1), -1);
        due("sheet(0, -2, 1)", t.sheet(0, -2, 1), -1);
        due("sheet(0, 0, 41)", t.sheet(0, 0, 41), -1);
        due("sheet(0, 0, -1)", t.sheet(0, 0, -1), -14);
        due("sheet(4, 0, -1)", t.sheet(4, 0, -1), -1);
        due("sheet(0, 5, -1)", t.sheet(0, 5, -1), -1);
        due("a row of none isn't missing", t.item(0, 0, 0), -12);
        t.put(3, 39, 1);
        due("item(3, 4, 39)", t.item(3, 4, 39), 1);
        t.sheet(3, 4, 40);
        due("all 0 again", t.item(3, 4, 39), 0);
        due("sheet(3, -1, -5)", t.sheet(3, -1, -5), 1);
        due("missing", t.item(3, 4, 39), -11);
        due("sheet(3, -1, 99)", t.sheet(3, -1, 99), 1);
    }

    private static void put() {
        promise = 35;
        UnevenTap t = new UnevenTap();
        int[][] narrowed = {{0, 300, 44}, {0, 200, -56}, {1, 70000, 4464}, {1, 40000, -25536}, {2, 1 << 31, 1 << 31},
            {3, -5, -5}, {4, 256, 1}, {4, 0, 0}, {4, -1, 1}};
        for (int[] one : narrowed) {
            t.sheet(1, one[0], 2);
            due("put(1, 1, " + one[1] + ")", t.put(1, 1, one[1]), 1);
            due("item(1, " + one[0] + ", 1)", t.item(1, one[0], 1), one[2]);
            due("item(1, " + one[0] + ", 0)", t.item(1, one[0], 0), 0);
        }
        due("put(1, 2, 0)", t.put(1, 2, 0), -12);
        due("put(1, -1, 0)", t.put(1, -1, 0), -12);
        due("put(0, -1, 0)", t.put(0, -1, 0), -11);
        due("put(4, 0, 0)", t.put(4, 0, 0), -1);
        due("put(-1, 0, 0)", t.put(-1, 0, 0), -1);
    }

    private static void item() {
        promise = 36;
        UnevenTap t = new UnevenTap();
        t.sheet(0, 2, 3);
        t.put(0, 2, -13);
        due("item(0, 2, 2)", t.item(0, 2, 2), -13);
        due("item(0, 2, 3)", t.item(0, 2, 3), -12);
        due("item(0, 2, -1)", t.item(0, 2, -1), -12);
        due("item(0, 3, 9)", t.item(0, 3, 9), -13);
        due("item(1, 3, 9)", t.item(1, 3, 9), -11);
        due("item(0, 5, 0)", t.item(0, 5, 0), -1);
        due("item(0, -1, 0)", t.item(0, -1, 0), -1);
        due("item(4, 0, 0)", t.item(4, 0, 0), -1);
        due("item(-1, 0, 0)", t.item(-1, 0, 0), -1);
    }

    private static void times() {
        promise = 37;
        UnevenTap t = new UnevenTap();
        t.sheet(0, 1, 6);
        int[] items = {5, 0, 9999, 10000, -3, 8};
        for (int i = 0; i < 6; i++) {
            t.put(0, i, items[i]);
        }
        due("times(0, 0, 6)", t.times(0, 0, 6), 3);
        due("many(0)", t.many(0), 3);
        due("time(1)", t.time(1), 9999);
        due("time(2)", t.time(2), 8);
        due("times(0, 5, 2)", t.times(0, 5, 2), -12);
        due("what stood ahead came", t.many(0), 4);
        due("times(0, 6, 1)", t.times(0, 6, 1), -12);
        due("times(0, -1, 3)", t.times(0, -1, 3), -12);
        due("times(0, MAX, 3)", t.times(0, Integer.MAX_VALUE, 3), -12);
        due("times(0, 6, 0)", t.times(0, 6, 0), 0);
        due("many(0)", t.many(0), 4);
        due("times(0, 0, 41)", t.times(0, 0, 41), -1);
        due("times(0, 0, -1)", t.times(0, 0, -1), -1);
        due("times(4, 0, 1)", t.times(4, 0, 1), -1);
        due("times(1, 0, 1)", t.times(1, 0, 1), -11);
        t.sheet(1, 2, 6);
        due("times(1, 9, 1)", t.times(1, 9, 1), -13);
        for (int i = 0; i < 55; i++) {
            t.tell(3);
        }
        due("none comes to a full row but one", t.times(0, 0, 6), 1);
        due("times(0, 0, 6)", t.times(0, 0, 6), 0);
        due("times(0, 0, 7)", t.times(0, 0, 7), -12);
    }

    private static void shelf() {
        promise = 38;
        UnevenTap t = new UnevenTap();
        due("shelf(0, 0, 0)", t.shelf(0, 0, 0), -1);
        t.record();
        due("shelf(0, 0, 0)", t.shelf(0, 0, 0), 1);
        due("shelf(3, 1, 3)", t.shelf(3, 1, 3), 1);
        due("shelf(0, 0, 1)", t.shelf(0, 0, 1), -1);
        due("shelf(0, 0, -1)", t.shelf(0, 0, -1), -1);
        due("shelf(0, 1, 4)", t.shelf(0, 1, 4), -1);
        due("shelf(0, 1, -1)", t.shelf(0, 1, -1), -1);
        due("shelf(0, 2, 4)", t.shelf(0, 2, 4), -1);
        due("shelf(0, 2, -1)", t.shelf(0, 2, -1), -1);
        due("shelf(0, 4, 0)", t.shelf(0, 4, 0), -1);
        due("shelf(0, -1, 0)", t.shelf(0, -1, 0), -1);
        due("shelf(4, 3, 0)", t.shelf(4, 3, 0), -1);
        due("shelf(-1, 3, 0)", t.shelf(-1, 3, 0), -1);
        due("refused ones change nothing", t.taken(0, 6), 0);
        due("shelf(0, 3, 77)", t.shelf(0, 3, 77), 1);
        due("nothing is there", t.taken(0, 6), -11);
        t.shelf(0, 0, 0);
        due("the row of a missing sheet", t.shelf(0, 2, 1), 1);
        due("nothing is there", t.taken(0, 6), -11);
        t.sheet(1, 0, 9);
        due("a row that comes later isn't there", t.taken(0, 10), -11);
        due("shelf(0, 2, 1)", t.shelf(0, 2, 1), 1);
        t.sheet(1, 2, 7);
        due("the row stays, whatever the sheet becomes", t.taken(0, 10), 9);
    }

    private static void taken() {
        promise = 39;
        UnevenTap t = withRecords();
        int[][] under = {{0, 1}, {0, 2}, {0, 2, 3}, {0, 4}, {0, 5}, {0, 5, 6}};
        for (int n = 0; n < 6; n++) {
            t.shelf(1, 0, n);
            for (int as = 0; as < 8; as++) {
                boolean is = false;
                for (int kind : under[n]) {
                    is |= kind == as;
                }
                due("taken(1, " + as + ") of record " + n, t.taken(1, as), is ? n : -13);
            }
            due("taken(1, 10)", t.taken(1, 10), -13);
        }
        t.shelf(2, 1, 3);
        for (int as = 0; as < 8; as++) {
            due("taken(2, " + as + ") of a law", t.taken(2, as), as == 7 ? 3 : -13);
        }
        due("taken(2, 13) of a law", t.taken(2, 13), -13);
        for (int sort = 0; sort < 5; sort++) {
            t.sheet(0, sort, 5 + sort);
            t.shelf(3, 2, 0);
            for (int as = 10; as < 15; as++) {
                due("taken(3, " + as + ") of sort " + sort, t.taken(3, as), as - 10 == sort ? 5 + sort : -13);
            }
            due("taken(3, 0) of a row", t.taken(3, sort), -13);
        }
        due("taken(0, 0)", t.taken(0, 0), -11);
        due("taken(0, 14)", t.taken(0, 14), -11);
        due("taken(0, 8)", t.taken(0, 8), -1);
        due("taken(0, 9)", t.taken(0, 9), -1);
        due("taken(0, 15)", t.taken(0, 15), -1);
        due("taken(0, -1)", t.taken(0, -1), -1);
        due("taken(4, 0)", t.taken(4, 0), -1);
        due("taken(-1, 0)", t.taken(-1, 0), -1);
    }

    private static void act() {
        promise = 40;
        UnevenTap t = withRecords();
        int[][] answers = {
            {10, 17, 12, 17}, {65, 130, 8, 131}, {121, 242, 4, 240}, {20, -40, 5, -37}, {9, 18, -15, 44}, {-1, -2, -12, -10},
        };
        for (int n = 0; n < 6; n++) {
            t.shelf(0, 0, n);
            due("grows of record " + n, t.act(0, 0, 5), answers[n][0]);
            due("swings of record " + n, t.act(0, 1, 5), answers[n][1]);
            due("parts of record " + n, t.act(0, 2, 60), answers[n][2]);
            due("tells of record " + n, t.act(0, 3, 5), answers[n][3]);
        }
        t.shelf(0, 0, 0);
        due("ints wrap", t.act(0, 0, Integer.MAX_VALUE), Integer.MIN_VALUE + 4);
        due("cut towards 0", t.act(0, 2, -9), -1);
        t.shelf(0, 0, 2);
        due("grows of fours, a's bit is there already", t.act(0, 0, 0), 80 ^ 16);
        due("parts of fours by 14: 1 more", t.act(0, 2, 13), 1);
        due("parts of fours by 14: 1 more", t.act(0, 2, 12), 0);
        UnevenTap other = withRow(7, 1, 9, 2);
        other.record();
        other.shelf(0, 0, 0);
        due("parts of muddled by 4: 1 less", other.act(0, 2, 8), 1);
        due("parts of muddled by 4: 1 less", other.act(0, 2, 9), 2);
        Edges.feedText(t, "goes 6 ;");
        t.read();
        t.shelf(1, 1, 2);
        due("grows of a law", t.act(1, 0, 1), 5);
        due("swings of a law", t.act(1, 1, 1), 10);
        due("parts of a law", t.act(1, 2, 3), 2);
        due("tells of a law", t.act(1, 3, 1), 8);
        Edges.feedText(t, "goes 9 ;");
        t.read();
        due("what its E is now", t.act(1, 0, 1), 8);
        t.sheet(0, 0, 3);
        t.shelf(2, 2, 0);
        due("act of a row", t.act(2, 0, 1), 0);
        due("act of nothing", t.act(3, 0, 1), 0);
        due("act(0, 4, 1)", t.act(0, 4, 1), 0);
        due("act(0, -1, 1)", t.act(0, -1, 1), 0);
        due("act(4, 0, 1)", t.act(4, 0, 1), 0);
        due("act(-1, 0, 1)", t.act(-1, 0, 1), 0);
        t = new UnevenTap();
        t.record();
        tellAll(t, 7);
        t.record();
        t.shelf(0, 0, 1);
        due("a is n: all that is answered", t.act(0, 2, 8), -15);
        t.shelf(0, 0, 0);
        due("a is n: all that is answered", t.act(0, 2, 8), -15);
        tellAll(t, 4, 6, 4, 6, 4, 6, 4);
        for (int i = 0; i < 4; i++) {
            t.record();
        }
        t.shelf(0, 0, 5);
        due("tells of twos: its parts by 2", t.act(0, 3, 1), ((1 + 7) * 5 * 2 ^ 5) + 5 / 2);
        t = withRow(3);
        t.record();
        t.record();
        t.shelf(1, 0, 1);
        due("tells needs no parts of a muddled one", t.act(1, 3, 1), (4 ^ 1) * 2);
    }

    private static void trace() {
        promise = 41;
        UnevenTap t = withRecords();
        int[][][] traces = {
            {{10}, {20, 11, 10}, {12}, {13, 20, 11, 10}},
            {{30, 10}, {11, 30, 10}, {12}, {31, 13, 11, 30, 10, 12}},
            {{40, 30, 10}, {11, 40, 30, 10}, {41, 12}, {31, 13, 11, 40, 30, 10, 41, 12}},
            {{10}, {50, 11, 10}, {12}, {13, 50, 11, 10}},
            {{10}, {11, 10}, {61, 12}, {60, 13, 11, 10}},
            {{70, 10}, {11, 70, 10}, {71, 61, 12}, {60, 13, 11, 70, 10}},
        };
        dueTrace(t);
        for (int n = 0; n < 6; n++) {
            t.shelf(0, 0, n);
            for (int act = 0; act < 4; act++) {
                t.act(0, act, 5);
                dueTrace(t, traces[n][act]);
            }
        }
        t.shelf(1, 1, 2);
        int[][] ofLaw = {{80}, {81, 80}, {82}, {83, 81, 80, 82}};
        for (int act = 0; act < 4; act++) {
            t.act(1, act, 5);
            dueTrace(t, ofLaw[act]);
        }
        due("trace(-1)", t.trace(-1), -3);
        t.act(1, 4, 5);
        dueTrace(t);
        t.act(1, 0, 5);
        t.act(4, 0, 5);
        dueTrace(t);
        t.act(1, 0, 5);
        t.act(3, 0, 5);
        dueTrace(t);
        t.act(1, 0, 5);
        t.sheet(0, 0, 1);
        t.shelf(3, 2, 0);
        t.act(3, 0, 5);
        dueTrace(t);
    }

    private static void many() {
        promise = 42;
        UnevenTap t = withRecords();
        Edges.feedText(t, "flow 1 ; left 2 ; flow 3 ;");
        t.read();
        t.tell(3);
        t.prove(4);
        t.feed(0, 5);
        t.shelf(0, 0, 0);
        t.act(0, 1, 1);
        int[] due = {1, 6, 4, 5, 3, 2};
        for (int what = 0; what < due.length; what++) {
            due("many(" + what + ")", t.many(what), due[what]);
        }
        due("many(6)", t.many(6), -1);
        due("many(-1)", t.many(-1), -1);
    }

    // ---- kept

    private static void keep() {
        promise = 43;
        UnevenTap t = under("flow 3 ; goes since = 4 ; left 0 ;");
        t.begin(70, 5, 6);
        t.set(0, 20);
        t.set(1, 9);
        t.run(30);
        t.record();
        due("keep()", t.keep(), 1);
        int[] then = new int[8];
        for (int what = 0; what < 8; what++) {
            then[what] = t.tap(what);
        }
        int z = t.seed(0);
        t.seed(z);
        t.record();
        t.begin(1, 1, 1);
        t.set(0, 1);
        t.set(1, 1);
        t.seed(5);
        t.tell(2);
        t.run(400);
        dueRead(t, "pull 1 ;", 1);
        due("again()", t.again(), 1);
        for (int what = 0; what < 8; what++) {
            due("tap(" + what + ")", t.tap(what), then[what]);
        }
        due("z", t.seed(z), z);
        due("the row", t.many(0), 7);
        due("time(6)", t.time(6), 4);
        due("records", t.many(1), 1);
        due("laws", t.says(0), 3);
        due("how many laws were told", t.many(5), 3);
        due("water()", t.water(), 0);
        due("the same goes on", t.run(2), 1);
    }

    private static void again() {
        promise = 44;
        UnevenTap t = new UnevenTap();
        due("again()", t.again(), -3);
        t.tell(5);
        t.keep();
        t.tell(6);
        t.tell(7);
        t.record();
        t.feed('p', 1);
        t.prove(3);
        t.sheet(0, 0, 4);
        t.shelf(0, 0, 0);
        t.act(0, 1, 1);
        due("again()", t.again(), 1);
        due("many(0)", t.many(0), 1);
        due("many(1)", t.many(1), 0);
        due("rows stay", t.many(2), 3);
        due("the tape stays", t.many(3), 1);
        due("the trace stays", t.many(4), 2);
        due("sheets stay", t.item(0, 0, 3), 0);
        due("there is no such record any more", t.taken(0, 0), -11);
        due("there is no such record any more", t.act(0, 0, 1), 0);
        t.clear();
        t.record();
        due("a shelf holds its record by its number", t.taken(0, 6), 0);
        due("what was kept stays", t.again(), 1);
        due("many(0)", t.many(0), 1);
        t.tell(8);
        t.keep();
        t.clear();
        t.again();
        due("the latest counts", t.many(0), 2);
        t.tell(9);
        due("what was kept stays apart", t.again(), 1);
        due("many(0)", t.many(0), 2);
    }
}
