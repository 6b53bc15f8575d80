import java.util.ArrayList;
import java.util.List;

/** For each sentence of the promises in ../shared/DOC.md that names a boundary case a run of its own. */
public final class PromisesEdgesTest {
    private static final Edges EDGES = new Edges();
    /** Behind these steps there is something of each kind that a refused call could change. */
    private static final Edges FULL_OF_THINGS = new Edges("laws flow 7 ; pull 1 ; goes since = 5 ; left 3 ;",
            "begin(50, 20, -3)", "set(0, 33)", "set(1, 4)", "seed(77)", "run(23)", "record()", "keep()", "tell(9)",
            "record()", "run(3)", "set(0, 44)", "prove(3)", "sheet(0, 1, 3)", "put(0, 1, 25)", "sheet(1, 2, 2)",
            "put(1, 0, -5)", "sheet(2, 4, 0)", "shelf(0, 0, 1)", "shelf(1, 1, 2)", "shelf(2, 2, 0)", "text flow 5",
            "act(0, 3, 5)");

    public static void main(String[] args) {
        aNewObject();
        begin();
        set();
        seed();
        run();
        tap();
        water();
        feed();
        read();
        says();
        tell();
        clear();
        time();
        periodAndKind();
        order();
        hits();
        ahead();
        rule();
        drift();
        span();
        grid();
        doubling();
        windows();
        touch();
        lost();
        prove();
        row();
        alterRow();
        judge();
        record();
        recorded();
        alike();
        sheet();
        put();
        item();
        times();
        shelf();
        taken();
        act();
        actWraps();
        partedByZero();
        trace();
        many();
        keep();
        again();
        int asked = EDGES.asked() + FULL_OF_THINGS.asked();
        int wrong = EDGES.wrong() + FULL_OF_THINGS.wrong();
        System.out.println(asked + " answers asked, " + wrong + " not as due");
        if (wrong != 0) {
            System.exit(1);
        }
    }

    private static void edge(String sentence, String... steps) {
        EDGES.edge(sentence, steps);
    }

    /** One run for each call, behind which all must be as it was. */
    private static void refused(String sentence, String... calls) {
        FULL_OF_THINGS.each(sentence, calls);
    }

    private static void amid(String sentence, String... steps) {
        FULL_OF_THINGS.edge(sentence, steps);
    }

    /** m TIMES that come again by p. */
    private static String rowBy(int p, int m) {
        StringBuilder row = new StringBuilder("row");
        for (int i = 0; i < m; i++) {
            row.append(" ").append(1 + i % p);
        }
        return row.toString();
    }

    private static void aNewObject() {
        edge("1 nothing hangs", "tap(0) 0", "tap(3) 0", "tap(4) 0", "tap(5) 0", "water() 0");
        edge("1 laws as at first", "says(0) 10", "says(1) 0", "says(2) 0", "says(3) 0", "many(5) 0");
        edge("1 nothing is kept", "again() -3");
        edge("1 all is empty", "many(0) 0", "many(1) 0", "many(2) 0", "many(3) 0", "many(4) 0", "time(0) -3",
                "recorded(0, 0) -1", "row(0, 0) -9", "trace(0) -3", "read() 0");
        for (int i = 0; i < 4; i++) {
            edge("1 SHEETS are missing, SHELVES hold nothing", "item(" + i + ", 0, 0) -11", "put(" + i + ", 0, 0) -11",
                    "taken(" + i + ", 0) -11", "act(" + i + ", 0, 1) 0");
        }
    }

    private static void begin() {
        edge("2 WEIGHT from 0", "begin(0, 0, 0) 1", "tap(0) 0");
        edge("2 WEIGHT to 9999", "begin(9999, 0, 0) 1", "tap(0) 9999");
        edge("2 SWAY from -999", "begin(0, -999, 0) 1", "tap(1) 9001");
        edge("2 SWAY to 999", "begin(0, 999, 0) 1", "tap(1) 10999");
        edge("2 SPEED from -999", "begin(0, 0, -999) 1", "tap(2) 9001");
        edge("2 SPEED to 999", "begin(0, 0, 999) 1", "tap(2) 10999");
        refused("2 BAD", "begin(-1, 0, 0) -1", "begin(10000, 0, 0) -1", "begin(0, -1000, 0) -1", "begin(0, 1000, 0) -1",
                "begin(0, 0, -1000) -1", "begin(0, 0, 1000) -1", "begin(MIN, 0, 0) -1", "begin(MAX, 0, 0) -1",
                "begin(0, MIN, 0) -1", "begin(0, MAX, 0) -1", "begin(0, 0, MIN) -1", "begin(0, 0, MAX) -1");
        amid("2 TICK, SINCE, DROPS are 0, THE ROW is empty", "begin(1, 2, 3) 1", "tap(3) 0", "tap(4) 0", "tap(5) 0",
                "many(0) 0", "water() 0");
        amid("2 KNOB, SHAKE stay", "begin(1, 2, 3) 1", "tap(6) 44", "tap(7) 4");
        edge("2 z stays", "seed(5)", "begin(1, 2, 3) 1", "seed(0) 5");
        amid("2 all else stays", "begin(1, 2, 3) 1", "many(1) 2", "many(2) 3", "many(3) 6", "many(5) 4", "item(0, 1, 1) 25",
                "taken(0, 0) 1", "again() 1", "tap(6) 33");
    }

    private static void set() {
        edge("3 KNOB from 0", "set(0, 0) 10", "tap(6) 0");
        edge("3 KNOB to 99", "set(0, 99) 10", "tap(6) 99");
        edge("3 SHAKE from 0", "set(1, 9) 0", "set(1, 0) 9", "tap(7) 0");
        edge("3 SHAKE to 99", "set(1, 99) 0", "tap(7) 99");
        edge("3 the one alone", "set(0, 5) 10", "tap(7) 0", "set(1, 6) 0", "tap(6) 5");
        refused("3 BAD", "set(0, -1) -1", "set(0, 100) -1", "set(1, -1) -1", "set(1, 100) -1", "set(-1, 5) -1", "set(2, 5) -1",
                "set(0, MIN) -1", "set(1, MAX) -1", "set(MIN, 5) -1", "set(MAX, 5) -1");
    }

    private static void seed() {
        edge("4 any int", "seed(MIN) 1", "seed(MAX) -2147483648", "seed(0) 2147483647", "seed(-1) 0", "seed(7) -1",
                "seed(7) 7");
        amid("4 z becomes v, all else stays", "seed(1)", "tap(6) 44", "tap(3) 26", "many(0) 6");
    }

    private static void run() {
        edge("5 no TICK", "run(0) 0", "tap(3) 0");
        edge("5 one TICK", "laws goes 1 ;", "run(1) 1", "tap(3) 1");
        edge("5 400 TICKS", "laws goes 1 ;", "run(400) 400", "tap(3) 400", "tap(5) 400", "many(0) 60");
        edge("5 the DROPS of this run alone", "laws goes since = 100 ;", "run(400) 4", "run(99) 0", "run(1) 1");
        refused("5 BAD", "run(-1) -1", "run(401) -1", "run(MIN) -1", "run(MAX) -1");
    }

    private static void tap() {
        edge("6 and 10000 more", "begin(0, -999, -999)", "tap(1) 9001", "tap(2) 9001");
        edge("6 and 10000 more", "begin(0, 999, 999)", "tap(1) 10999", "tap(2) 10999");
        refused("6 each what", "tap(3) 26", "tap(4) 1", "tap(5) 5", "tap(6) 44", "tap(7) 4");
        refused("6 BAD: another what", "tap(-1) -1", "tap(8) -1", "tap(MIN) -1", "tap(MAX) -1");
    }

    private static void water() {
        edge("7 the WEIGHT it began with", "begin(9999, 0, 0)", "water() 0", "run(1) 1", "water() 0", "run(400)", "water() 0");
        edge("7 what flows is held to 0", "laws flow - 7 ; goes 0 ;", "run(9)", "water() 0");
        edge("7 what flows is held to 999", "laws flow 9999 ; goes 0 ;", "run(9)", "water() 0", "tap(0) 8991");
        edge("7 what was beyond 99999 hangs nowhere", "laws flow 999 ; goes 0 ;", "run(101)", "water() 900", "run(400)",
                "water() 400500");
        edge("7 since it began", "laws flow 999 ; goes 0 ;", "run(101)", "begin(7, 0, 0)", "water() 0");
    }

    private static void feed() {
        edge("8 1 byte", "feed(32, 1) 1");
        edge("8 8 bytes", "feed(0x2020202020202020, 8) 8");
        edge("8 the lowest first", "feed(0x3b203120776f6c66, 8) 8", "read() 1", "says(0) 1");
        edge("8 n bytes alone", "feed(0x3b203120776f6c66, 4) 4", "read() -104");
        edge("8 of a long below 0, too", "feed(-1, 8) 8", "read() -100");
        edge("8 the highest byte", "feed(0x2020202020202020, 7)", "feed(0x3b20372020202020, 8)", "read() -112");
        String eight = "feed(0x2020202020202020, 8)";
        edge("8 200 bytes", "24 x " + eight, "feed(0x2020202020202020, 8) 200", "read() 0");
        edge("8 FULL: more than 200", "25 x " + eight, "feed(32, 1) -2", "feed(32, 8) -2", "many(3) 200");
        edge("8 FULL: more than 200", "24 x " + eight, "feed(32, 7) 199", "feed(32, 2) -2", "feed(32, 8) -2", "feed(32, 1) 200",
                "feed(32, 1) -2");
        edge("8 BAD ahead of FULL", "25 x " + eight, "feed(32, 0) -1", "feed(32, 9) -1", "feed(32, MIN) -1");
        refused("8 BAD", "feed(32, 0) -1", "feed(32, -1) -1", "feed(32, 9) -1", "feed(32, MIN) -1", "feed(32, MAX) -1");
    }

    private static void read() {
        edge("9 those that it doesn't tell are as at first", "laws flow 1 ; pull 2 ; goes 3 ; left 4 ;", "says(3) 4",
                "text flow 5 ;", "read() 1", "says(0) 5", "says(1) 0", "says(2) 0", "says(3) 0");
        edge("9 an empty TAPE", "laws flow 1 ;", "says(0) 1", "read() 0", "says(0) 10", "many(5) 0");
        edge("9 how many it told", "text flow 1;pull 2;flow 3;", "read() 2", "many(5) 2");
        edge("9 all four", "text flow 1;pull 2;goes 3;left 4;", "read() 4", "many(5) 4");
        edge("9 the least FAULT", "text ;", "read() -100");
        amid("9 a refused one changes nothing but THE TAPE", "read() -106", "many(3) 0", "says(0) 7", "many(5) 4");
        edge("9 all laws ahead of the FAULT are left, too", "laws flow 1 ;", "text flow 2;pull 3;goes", "read() -118",
                "says(0) 1", "says(1) 0", "many(5) 1");
    }

    private static void says() {
        edge("10 KEY 0 to 3", "laws flow 5;pull 6;goes 7;left 8;", "says(0) 5", "says(1) 6", "says(2) 7", "says(3) 8");
        refused("10 BAD is told as 0", "says(-1) 0", "says(4) 0", "says(MIN) 0", "says(MAX) 0");
        edge("10 what the E is isn't held", "laws flow - 9999;pull 9999;left - 1;", "says(0) -9999", "says(1) 9999",
                "says(3) -1");
    }

    private static void tell() {
        edge("11 a TIME from 1", "tell(1) 1", "time(0) 1");
        edge("11 a TIME to 9999", "tell(9999) 1", "time(0) 9999");
        refused("11 BAD", "tell(0) -1", "tell(-1) -1", "tell(10000) -1", "tell(MIN) -1", "tell(MAX) -1");
        edge("11 FULL", "59 x tell(7)", "tell(8) 60", "tell(9) -2", "many(0) 60", "time(59) 8");
        edge("11 BAD ahead of FULL", "60 x tell(7)", "tell(0) -1", "tell(10000) -1", "tell(1) -2", "tell(9999) -2");
        edge("11 not full any more", "60 x tell(7)", "tell(1) -2", "clear() 60", "tell(1) 1");
    }

    private static void clear() {
        edge("12 an empty ROW", "clear() 0", "many(0) 0");
        edge("12 a full ROW", "60 x tell(7)", "clear() 60", "many(0) 0", "clear() 0", "time(0) -3", "kind() 6");
        amid("12 all else stays", "clear() 6", "tap(5) 5", "tap(4) 1", "many(1) 2", "recorded(1, 1) 5");
    }

    private static void time() {
        edge("13 NONE of an empty ROW", "time(0) -3", "time(-1) -3");
        edge("13 the last of a full ROW", "59 x tell(7)", "tell(8)", "time(59) 8", "time(60) -3", "time(0) 7");
        refused("13 NONE", "time(-1) -3", "time(6) -3", "time(MIN) -3", "time(MAX) -3", "time(59) -3");
        refused("13 TIME i", "time(0) 5", "time(4) 9", "time(5) 5");
        edge("13 what was cleared isn't there", "row 4 5 6", "clear()", "tell(9)", "time(0) 9", "time(1) -3");
    }

    private static void periodAndKind() {
        String[] rows = {"row", "row 5", "row 5 5", "row 5 5 5", "row 9 5 5", "row 5 9 5", "row 5 5 9", "row 1 2 5 5",
            "row 5 5 5 9", "row 9 9 5 5 5", "row 9 9 9 5 5", "row 1 2 1 2 1 2", "row 9 9 9 1 2 1 2", "row 9 9 1 9 1 2 1"};
        int[] periods = {0, 0, 0, 1, 1, 0, 0, 1, 0, 1, 0, 0, 2, 0};
        for (int i = 0; i < rows.length; i++) {
            edge("14 PERIOD of '" + rows[i] + "'", rows[i], "period() " + periods[i]);
            edge("15 KIND of '" + rows[i] + "'", rows[i], "kind() " + (i == 0 ? 6 : periods[i] == 0 ? 5 : periods[i]));
        }
        int[] kinds = {6, 1, 2, 4, 3, 5, 5, 5, 5};
        for (int p = 1; p <= 8; p++) {
            edge("14 not above half of the latter half: " + p, rowBy(p, 4 * p - 1), "period() " + p, "kind() " + kinds[p]);
            edge("14 above half of the latter half: " + p, rowBy(p, 4 * p - 2), "period() 0", "kind() 5");
            edge("14 of a full ROW: " + p, rowBy(p, 60), "period() " + p, "kind() " + kinds[p]);
        }
        edge("14 p of 1 to 8", rowBy(9, 60), "period() 0", "kind() 5");
        edge("14 the last one counts", rowBy(2, 59), "tell(3)", "period() 0");
        edge("14 the first one of the latter half counts", "29 x tell(5)", "tell(5)", "tell(6)", "29 x tell(5)", "period() 0");
        edge("14 the last one of the first half doesn't", "29 x tell(5)", "tell(6)", "30 x tell(5)", "period() 1");
        edge("15 nothing is of KIND 0", "row 1 2", "kind() 5");
    }

    private static void order() {
        String[] rows = {"row", "row 5", "row 5 5", "row 5 6", "row 5 5 5", "row 5 6 5", "row 5 5 6", "row 1 2 3 1 2 4",
            "row 5 1 2 3 6 1 2 3 7", "row 5 9 1 2 3 6 9 1 2 3 7", "row 7 7 7 8", "row 7 7 7 7 8", "row 7 7 7 7 7 8",
            "row 1 2 3 1 2"};
        int[] orders = {1, 1, 1, 1, 1, 1, 2, 3, 4, 0, 3, 4, 0, 1};
        for (int i = 0; i < rows.length; i++) {
            edge("16 ORDER of '" + rows[i] + "'", rows[i], "order() " + orders[i]);
        }
        edge("16 ORDER of a full ROW", "59 x tell(7)", "tell(7)", "order() 1");
        edge("16 ORDER of a full ROW, the last one counts", "59 x tell(7)", "tell(8)", "order() 0");
    }

    private static void hits() {
        refused("17 BAD", "hits(0, 1) -1", "hits(10, 1) -1", "hits(-1, 1) -1", "hits(1, -1) -1", "hits(1, 10000) -1",
                "hits(MIN, 1) -1", "hits(MAX, 1) -1", "hits(1, MIN) -1", "hits(1, MAX) -1");
        edge("17 k from 1 to 9, x from 0", "60 x tell(7)", "hits(1, 0) 58", "hits(9, 0) 50");
        edge("17 k from 1 to 9, x to 9999", "60 x tell(7)", "hits(1, 9999) 58", "hits(9, 9999) 50");
        edge("17 of an empty ROW", "hits(1, 9999) 0", "hits(9, 9999) 0");
        edge("17 i from 1 on", "row 5 5", "hits(1, 9999) 0");
        edge("17 i from 1 on", "row 5 5 5", "hits(1, 0) 1");
        edge("17 places i + 9", "10 x tell(7)", "hits(9, 9999) 0");
        edge("17 places i + 9", "11 x tell(7)", "hits(9, 0) 1");
        // told is what stands behind the 3: 8
        edge("17 off by x at most", "row 3 8 10", "hits(1, 1) 0", "hits(1, 2) 1", "hits(1, 3) 1");
        edge("17 off by x at most", "row 3 8 6", "hits(1, 1) 0", "hits(1, 2) 1");
        edge("17 off by the most", "row 1 9999 1", "hits(1, 9997) 0", "hits(1, 9998) 1");
        edge("17 of several the latest", "row 4 7 4 9 4 9", "hits(1, 0) 2");
    }

    private static void ahead() {
        refused("18 BAD: k", "ahead(0) -1", "ahead(10) -1", "ahead(-1) -1", "ahead(MIN) -1", "ahead(MAX) -1");
        edge("18 NONE: fewer than 2", "ahead(1) -3", "ahead(9) -3");
        edge("18 NONE: fewer than 2", "row 5", "ahead(1) -3", "ahead(9) -3");
        edge("18 BAD ahead of NONE", "ahead(0) -1", "ahead(10) -1", "row 5", "ahead(0) -1", "ahead(10) -1");
        edge("18 of 2", "row 3 8", "ahead(1) 8", "ahead(9) 8");
        edge("18 of several the latest", "row 4 7 4 9 4", "ahead(1) 9");
        edge("18 as near below as above: the latest", "row 3 10 7 20 5", "ahead(1) 20");
        edge("18 as near above as below: the latest", "row 7 20 3 10 5", "ahead(1) 10");
        edge("18 place i - 1 is among them", "row 9 4 6", "ahead(1) 6");
        edge("18 place 0 is among them", "row 6 4 9 6", "ahead(1) 4");
        edge("18 k times", "row 1 2 3 4 5 6 7 8 9 10 1", "ahead(1) 2", "ahead(2) 3", "ahead(8) 9", "ahead(9) 10");
        edge("18 of a full ROW", "59 x tell(7)", "tell(8)", "ahead(1) 8", "ahead(9) 8");
    }

    private static void rule() {
        refused("19 BAD: x, part", "rule(-1, 0) -1", "rule(10000, 0) -1", "rule(0, -1) -1", "rule(0, 2) -1", "rule(MIN, 0) -1",
                "rule(MAX, 1) -1", "rule(0, MIN) -1", "rule(0, MAX) -1");
        edge("19 x from 0", "row 5 5 5", "rule(0, 0) 1", "rule(0, 1) 1");
        edge("19 x to 9999", "row 1 9999 1", "rule(9999, 0) 1", "rule(9999, 1) 1");
        edge("19 NONE: no such twos", "rule(9999, 0) -3", "rule(0, 1) -3", "row 5", "rule(9999, 0) -3", "row 5 5",
                "rule(9999, 0) -3", "row 5 6 7", "rule(0, 0) -3", "rule(1, 0) 1");
        edge("19 BAD ahead of NONE", "rule(-1, 0) -1", "rule(10000, 0) -1", "rule(0, -1) -1", "rule(0, 2) -1");
        edge("19 the TIMES are apart by x at most", "row 10 20 13 24", "rule(2, 0) -3", "rule(3, 1) 1", "rule(3, 0) 0");
        edge("19 those behind are apart by x at most", "row 10 20 13 24", "rule(3, 0) 0", "rule(4, 0) 1", "rule(4, 1) 1");
        edge("19 b has a TIME behind, too", "row 5 9 5", "rule(0, 0) -3", "tell(9)", "rule(0, 0) 1");
        edge("19 of 0 it is 1", "row 5 1 5 2 5 3", "rule(0, 0) 0", "rule(0, 1) 1");
        edge("19 of a full ROW", "60 x tell(7)", "rule(0, 0) 1", "rule(0, 1) 1");
        // 1 2 1 2 .. 1 1: 59 have one behind, 30 of them are 1, of which all but the last lead to a 2:
        // 29 * 28 of 30 * 29 + 29 * 28 halves
        edge("19 of a full ROW in lowest terms", rowBy(2, 59), "tell(1)", "rule(0, 0) 28", "rule(0, 1) 29");
    }

    private static void drift() {
        refused("20 NONE: no such TIME", "drift(-1) -3", "drift(6) -3", "drift(MIN) -3", "drift(MAX) -3");
        edge("20 NONE: fewer than 2", "drift(0) -3", "row 5", "drift(0) -3", "drift(1) -3");
        edge("20 of 2", "row 5 9", "drift(0) 20000", "drift(1) 20000", "drift(2) -3");
        edge("20 the first and the last", "row 5 9 9999", "drift(0) 20000", "drift(2) 20000");
        edge("20 cut", "row 10 10 10 15", "drift(1) 19999", "drift(2) 19997");
        edge("20 cut towards 0", "row 15 15 15 10", "drift(1) 20001", "drift(2) 20003");
        edge("20 the least", "row 9999 1 9999", "drift(1) 10002");
        edge("20 the most", "row 1 9999 1", "drift(1) 29998");
        edge("20 of a full ROW", "59 x tell(1)", "tell(60)", "drift(59) 20000", "drift(58) 19942", "drift(60) -3");
    }

    private static void span() {
        refused("21 BAD", "span(-1) -1", "span(3) -1", "span(MIN) -1", "span(MAX) -1");
        edge("21 NONE: it is empty", "span(0) -3", "span(1) -3", "span(2) -3");
        edge("21 BAD ahead of NONE", "span(-1) -1", "span(3) -1");
        edge("21 of one", "row 5", "span(0) 5", "span(1) 5", "span(2) 5");
        edge("21 the least is the last, the greatest the first", "row 9 5 3", "span(0) 3", "span(1) 9", "span(2) 17");
        edge("21 the least is the first, the greatest the last", "row 3 5 9", "span(0) 3", "span(1) 9", "span(2) 17");
        edge("21 of a full ROW", "60 x tell(9999)", "span(0) 9999", "span(1) 9999", "span(2) 599940");
        edge("21 cleared", "row 3 5 9", "clear()", "span(2) -3");
    }

    /** Under this law PERIOD is the KNOB if that is 1 to 8, 1 by KNOB 0, none beyond 8. */
    private static final String BY_KNOB = "laws pull 0 ; goes since > 2 + drops % knob ;";

    private static void grid() {
        refused("22 BAD", "grid(-1) -1", "grid(100) -1", "grid(MIN) -1", "grid(MAX) -1");
        edge("22 a KNOB from 0 to 99", "laws pull 0 ; goes ( knob = 0 ) + ( knob = 99 ) ;", "grid(0) 1", "grid(1) 0",
                "grid(98) 0", "grid(99) 1", "tap(6) 10");
        edge("22 another KNOB", BY_KNOB, "grid(3) 3", "grid(8) 8", "grid(9) 0", "grid(10) 0", "grid(0) 1", "tap(6) 10");
        edge("22 the 400th TICK counts", "laws pull 0 ; goes ( tick = 200 ) + ( tick = 300 ) + ( tick = 400 ) ;", "grid(5) 1");
        edge("22 the 401st doesn't", "laws pull 0 ; goes ( tick = 201 ) + ( tick = 301 ) + ( tick = 401 ) ;", "grid(5) 0");
        refused("22 nothing changes", "grid(0) 1", "grid(99) 1", "doubling(0, 20) -3", "windows(79, 99) 0");
    }

    private static void doubling() {
        refused("23 BAD", "doubling(-1, 5) -1", "doubling(80, 100) -1", "doubling(5, 4) -1", "doubling(0, 21) -1",
                "doubling(100, 100) -1", "doubling(-1, -1) -1", "doubling(MIN, MAX) -1", "doubling(MAX, MIN) -1",
                "doubling(0, MIN) -1", "doubling(MIN, 0) -1", "doubling(99, MAX) -1");
        edge("23 20 more at most", BY_KNOB, "doubling(0, 20) 2", "doubling(1, 21) 2", "doubling(79, 99) -3");
        edge("23 not below it", BY_KNOB, "doubling(2, 2) -3", "doubling(0, 0) -3", "doubling(99, 99) -3");
        edge("23 from the second on", BY_KNOB, "doubling(1, 2) 2", "doubling(2, 3) -3", "doubling(0, 1) -3");
        edge("23 the last one counts", "laws pull 0 ; goes since > 2 + drops % ( 1 + ( knob > 19 ) ) ;", "doubling(0, 20) 20",
                "doubling(0, 19) -3", "doubling(20, 40) -3");
        edge("23 the first one", "laws pull 0 ; goes since > 2 + drops % ( 8 / ( 9 - knob ) ) ;", "doubling(1, 8) 5",
                "doubling(6, 8) 7", "doubling(5, 6) -3");
        edge("23 both above 0", "laws goes 0 ;", "doubling(0, 20) -3");
        edge("23 BAD ahead of NONE", "laws goes 0 ;", "doubling(0, 21) -1", "doubling(1, 0) -1", "doubling(99, 100) -1");
        edge("23 both above 0", "laws pull 0 ; goes ( knob > 3 ) * ( since > 2 ) ;", "doubling(0, 20) -3");
        edge("23 twice, not half", "laws pull 0 ; goes since > 2 + drops % ( 2 - ( knob > 3 ) ) ;", "doubling(0, 20) -3");
    }

    private static void windows() {
        refused("24 BAD", "windows(-1, 5) -1", "windows(80, 100) -1", "windows(5, 4) -1", "windows(0, 21) -1",
                "windows(100, 100) -1", "windows(MIN, MAX) -1", "windows(MAX, MIN) -1", "windows(0, MIN) -1",
                "windows(99, MAX) -1");
        String threes = "laws pull 0 ; goes since > 2 + drops % 3 ;";
        edge("24 20 more at most", threes, "windows(0, 20) 21", "windows(79, 99) 21", "windows(1, 21) 21");
        edge("24 one alone", threes, "windows(0, 0) 1", "windows(99, 99) 1");
        edge("24 the first and the last count", BY_KNOB, "windows(3, 9) 1", "windows(0, 3) 1", "windows(4, 9) 0",
                "windows(0, 2) 0");
    }

    /** The TIMES are even if its SPEED is so ahead of the first TICK, by threes if not. */
    private static String evenIf(String speed) {
        return "laws flow ( tick = 1 ) * ( " + speed + " ) ; pull 0 ; goes since > 2 + ( weight = 0 ) * ( drops % 3 ) ;"
                + " left weight ;";
    }

    private static void touch() {
        refused("25 BAD", "touch(0) -1", "touch(401) -1", "touch(-1) -1", "touch(MIN) -1", "touch(MAX) -1");
        edge("25 to 30", evenIf("speed > 29"), "touch(400) 130", "tap(2) 10000");
        edge("25 not beyond 30", evenIf("speed > 30"), "touch(400) -3");
        edge("25 from -30", evenIf("speed < - 29"), "touch(400) 70");
        edge("25 not beyond -30", evenIf("speed < - 30"), "touch(400) -3");
        edge("25 0 first", evenIf("speed < 1"), "touch(400) 100");
        edge("25 the least by size", evenIf("( speed = 2 ) + ( speed = - 1 )"), "touch(400) 99");
        edge("25 of two the one above 0", evenIf("( speed = 30 ) + ( speed = - 30 )"), "touch(400) 130");
        edge("25 400 TICKS", "laws pull 0 ; goes ( tick = 200 ) + ( tick = 300 ) + ( tick = 400 ) ;", "touch(400) 100",
                "touch(399) -3");
        edge("25 1 TICK", "laws goes 1 ;", "touch(1) -3", "touch(2) -3", "touch(3) 100");
        edge("25 BAD ahead of NONE", "laws goes 0 ;", "touch(0) -1", "touch(401) -1", "touch(400) -3");
        refused("25 nothing changes", "touch(1) -3");
        amid("25 a SHAKE is the same for each", "touch(400) 100", "touch(400) 100");
    }

    private static void lost() {
        refused("26 BAD", "lost(-1) -1", "lost(1000) -1", "lost(MIN) -1", "lost(MAX) -1");
        String above = "laws flow 0 ; pull 0 ; goes ( since = 5 ) * ( weight > 998 ) ; left weight ;";
        edge("26 y from 0", above, "lost(0) -3");
        edge("26 y to 999", above, "lost(999) 0", "lost(998) -3");
        edge("26 the 400th TICK counts", "laws flow 0 ; pull 0 ; goes ( tick = 400 ) * ( weight > 4 ) ;", "lost(4) -3",
                "lost(5) 0");
        edge("26 the 401st doesn't", "laws flow 0 ; pull 0 ; goes ( tick = 401 ) * ( weight > 4 ) ;", "lost(5) -3");
        edge("26 NONE: both are empty", "laws goes 0 ;", "lost(999) -3");
        edge("26 WEIGHT is held to 99999", "laws flow ( weight = 9999 * 10 + 9 ) * 999 + ( tick < 101 ) * 900 ; goes tick = 102 ;",
                "begin(9999, 0, 0)", "run(100)", "tap(0) 99999", "lost(999) -3");
        String beyond = "goes since > 2 + ( weight > 10 ) * ( drops > ";
        edge("26 the last place of THE ROW", "laws flow 0 ; pull 0 ; " + beyond + "58 ) ; left weight ;", "lost(11) 59");
        edge("26 none beyond THE ROW", "laws flow 0 ; pull 0 ; " + beyond + "59 ) ; left weight ;", "lost(11) -3");
        edge("26 one that has none there, too", "laws flow 0 ; pull 0 ; goes ( since = 9 ) * ( drops < 2 + ( weight > 3 ) ) ;"
                + " left weight ;", "lost(4) 2", "lost(3) -3");
        edge("26 BAD ahead of NONE", "laws goes 0 ;", "lost(-1) -1", "lost(1000) -1");
        edge("26 both go on from THE TAP as it is", BY_KNOB, "grid(3) 3", "lost(0) -3", "run(7)", "lost(0) -3", "lost(999) -3");
        refused("26 nothing changes", "lost(0) -3", "lost(999) -3");
    }

    private static void prove() {
        refused("27 BAD", "prove(0) -1", "prove(13) -1", "prove(-1) -1", "prove(MIN) -1", "prove(MAX) -1");
        String fives = "laws flow 10 ; pull 0 ; goes since = 5 ; left 7 ;";
        edge("27 n from 1", fives, "prove(1) 1", "many(2) 1", "row(0, 0) 5", "row(0, 1) 43", "row(1, 0) -9");
        edge("27 n to 12", fives, "prove(12) 12", "many(2) 12", "row(11, 1) 50", "row(12, 0) -9");
        edge("27 fewer than ahead", fives, "prove(12) 12", "prove(2) 2", "many(2) 2", "row(2, 0) -9");
        edge("27 as many as come", "laws goes since = 100 ;", "prove(3) 3", "prove(4) 4", "prove(5) 4");
        edge("27 none comes", "laws goes 0 ;", "prove(12) 0", "many(2) 0", "row(0, 0) -9");
        edge("27 none comes, those ahead are gone", fives, "prove(3)", "laws goes 0 ;", "prove(1) 0", "row(0, 0) -9", "judge() 0");
        edge("27 the 400th TICK counts", "laws goes tick = 400 ;", "prove(1) 1", "row(0, 0) 400");
        edge("27 the 401st doesn't", "laws goes tick = 401 ;", "prove(1) 0");
        edge("27 400 from now on", "laws goes tick = 401 ;", "run(1)", "prove(1) 1", "row(0, 0) 401");
        edge("27 nothing else changes", fives, "prove(12) 12", "tap(3) 0", "tap(0) 0", "many(0) 0", "water() 0");
        edge("27 THE ROW may be full", fives, "60 x tell(1)", "prove(12) 12");
    }

    private static void row() {
        edge("28 there is none such", "row(0, 0) -9", "row(0, 1) -9");
        refused("28 there is none such", "row(-1, 0) -9", "row(3, 0) -9", "row(MIN, 0) -9", "row(MAX, 1) -9", "row(11, 0) -9");
        refused("28 another what", "row(0, -1) -9", "row(0, 2) -9", "row(2, MIN) -9", "row(2, MAX) -9");
        amid("28 the first and the last", "row(0, 0) 5", "row(0, 1) 35", "row(2, 0) 5", "row(2, 1) 35");
    }

    private static void alterRow() {
        edge("29 there is none such", "alterRow(0, 0, 1) -9", "alterRow(0, 1, 1) -9", "many(2) 0");
        refused("29 there is none such", "alterRow(-1, 0, 7) -9", "alterRow(3, 0, 7) -9", "alterRow(MIN, 0, 7) -9",
                "alterRow(MAX, 1, 7) -9");
        refused("29 another what", "alterRow(0, -1, 7) -9", "alterRow(0, 2, 7) -9", "alterRow(2, MIN, 7) -9",
                "alterRow(2, MAX, 7) -9");
        amid("29 what it was", "alterRow(0, 0, 7) 5", "row(0, 0) 7", "row(0, 1) 35", "alterRow(2, 1, 8) 35", "row(2, 1) 8",
                "row(2, 0) 5", "row(1, 1) 35");
        amid("29 any int", "alterRow(0, 0, MIN) 5", "alterRow(0, 0, MAX) -2147483648", "alterRow(0, 0, -9) 2147483647",
                "row(0, 0) -9", "row(0, 1) 35");
        amid("29 THE TAP stays", "alterRow(0, 0, 7) 5", "time(0) 5", "prove(3) 3", "row(0, 0) 5");
    }

    private static void judge() {
        edge("30 all of none is right", "judge() 0");
        amid("30 all is right", "judge() 0");
        amid("30 the first", "alterRow(0, 1, 32)", "judge() 1");
        amid("30 the first that isn't", "alterRow(2, 0, 6)", "judge() 3", "alterRow(1, 1, 34)", "judge() 2");
        amid("30 right again", "alterRow(2, 0, 6)", "judge() 3", "alterRow(2, 0, 5)", "judge() 0");
        String twelve = "laws flow 10 ; pull 0 ; goes since = 5 ; left 7 ;";
        edge("30 the twelfth", twelve, "prove(12) 12", "judge() 0", "alterRow(11, 1, 51)", "judge() 12");
        edge("30 as those of a TRIAL from now on", twelve, "prove(2)", "run(4)", "judge() 0", "run(1)", "judge() 1", "begin(0, 0, 0)", "judge() 0");
        edge("30 a DROP that doesn't come", "laws goes ( since = 2 ) * ( tick < 5 ) ; left 0 ;", "prove(3) 2", "run(2)",
                "judge() 2", "begin(0, 0, 0)", "judge() 0", "laws goes 0 ;", "judge() 1");
        edge("30 the 400th TICK counts, the 401st doesn't", "laws flow 0 ; pull 0 ; goes since = 400 ;", "run(1)", "prove(1) 1",
                "alterRow(0, 0, 400) 400", "begin(0, 0, 0)", "judge() 0", "laws flow 0 ; pull 0 ; goes since = 401 ;",
                "alterRow(0, 0, 401) 400", "judge() 1", "run(1)", "judge() 0");
    }

    private static void record() {
        edge("31 numbered as they come", "record() 0", "tell(5)", "record() 1", "recorded(0, 1) 0", "recorded(1, 1) 1");
        edge("31 6 at most", "5 x record()", "record() 5", "record() -2", "record() -2", "many(1) 6");
        edge("31 THE ROW stays", "row 4 5", "record() 0", "many(0) 2", "time(1) 5", "clear()", "recorded(0, 4) 5");
        edge("31 a full ROW", "60 x tell(7)", "record() 0", "recorded(0, 1) 60", "recorded(0, 62) 7", "recorded(0, 63) -1");
        edge("31 not full again", "keep()", "6 x record()", "record() -2", "again()", "record() 0");
        amid("31 FULL changes nothing", "4 x record()", "record() -2");
    }

    private static void recorded() {
        refused("32 BAD: no such RECORD", "recorded(-1, 0) -1", "recorded(2, 0) -1", "recorded(2, 3) -1", "recorded(MIN, 1) -1",
                "recorded(MAX, 2) -1", "recorded(5, 1) -1");
        refused("32 BAD: there is no TIME i, no such what", "recorded(0, -1) -1", "recorded(0, 7) -1", "recorded(1, 8) -1",
                "recorded(0, MIN) -1", "recorded(0, MAX) -1");
        amid("32 the first and the last", "recorded(0, 0) 1", "recorded(0, 1) 4", "recorded(0, 2) 1", "recorded(0, 3) 5",
                "recorded(0, 6) 5", "recorded(1, 7) 9", "recorded(1, 0) 5");
        edge("32 an empty one", "record() 0", "recorded(0, 0) 6", "recorded(0, 1) 0", "recorded(0, 2) 0", "recorded(0, 3) -1");
        edge("32 the sixth", "5 x record()", "tell(8)", "record() 5", "recorded(5, 3) 8", "recorded(6, 0) -1");
    }

    private static void alike() {
        refused("33 BAD", "alike(-1, 0) -1", "alike(0, -1) -1", "alike(2, 0) -1", "alike(0, 2) -1", "alike(MIN, 0) -1",
                "alike(0, MAX) -1");
        amid("33 as far as both go", "alike(0, 1) 4", "alike(1, 0) 4", "alike(1, 1) 5");
        edge("33 empty ones", "record()", "record()", "row 5", "record()", "alike(0, 1) 0", "alike(0, 2) 0", "alike(2, 0) 0");
        edge("33 the first and the last place", "row 1 2 3", "record()", "row 1 3 3", "record()", "row 2 3 4", "record()",
                "alike(0, 1) 2", "alike(0, 2) 0", "alike(1, 2) 1");
        edge("33 full ones", "60 x tell(7)", "record()", "record()", "alike(0, 1) 60");
    }

    // ---- the host

    private static void sheet() {
        refused("34 BAD", "sheet(-1, 0, 1) -1", "sheet(4, 0, 1) -1", "sheet(0, -2, 1) -1", "sheet(0, 5, 1) -1",
                "sheet(0, 0, 41) -1", "sheet(0, 4, 41) -1", "sheet(MIN, 0, 1) -1", "sheet(MAX, 0, 1) -1", "sheet(0, MIN, 1) -1",
                "sheet(0, MAX, 1) -1", "sheet(0, 0, MAX) -1");
        refused("34 a size below 0", "sheet(0, 0, -1) -14", "sheet(3, 4, MIN) -14");
        refused("34 BAD ahead of -14", "sheet(-1, 0, -1) -1", "sheet(4, 0, -1) -1", "sheet(0, -2, -1) -1", "sheet(0, 5, -1) -1");
        for (int sort = 0; sort < 5; sort++) {
            String of = "(3, " + sort + ", ";
            edge("34 n to 40", "sheet" + of + "40) 1", "item" + of + "39) 0", "item" + of + "40) -12", "put(3, 39, 1) 1");
            edge("34 n from 0", "sheet" + of + "0) 1", "item" + of + "0) -12", "put(3, 0, 1) -12");
            edge("34 all 0", "sheet" + of + "40)", "put(3, 0, 1)", "put(3, 39, 1)", "item" + of + "0) 1", "item" + of + "39) 1",
                    "sheet" + of + "40) 1", "item" + of + "0) 0", "item" + of + "39) 0");
        }
        edge("34 missing, n counts nothing", "sheet(0, 0, 2)", "sheet(0, -1, 41) 1", "item(0, 0, 0) -11", "sheet(0, 0, 2)",
                "sheet(0, -1, -1) 1", "put(0, 0, 1) -11", "sheet(0, -1, MIN) 1", "sheet(0, -1, MAX) 1");
        refused("34 missing, but no such SHEET", "sheet(4, -1, 0) -1", "sheet(-1, -1, 0) -1");
        edge("34 the one SHEET alone", "sheet(0, 0, 1)", "sheet(1, 1, 1)", "put(0, 0, 7)", "item(1, 1, 0) 0", "sheet(1, -1, 0)",
                "item(0, 0, 0) 7");
        edge("34 fewer than it had", "sheet(0, 0, 5)", "sheet(0, 0, 2)", "item(0, 0, 1) 0", "item(0, 0, 2) -12");
    }

    private static void put() {
        refused("35 BAD: no such SHEET", "put(-1, 0, 7) -1", "put(4, 0, 7) -1", "put(MIN, 0, 7) -1", "put(MAX, 9, 7) -1", "put(4, -1, 7) -1");
        refused("35 -11, ahead of -12, too", "put(3, 0, 7) -11", "put(3, -1, 7) -11", "put(3, 40, 7) -11");
        refused("35 -12", "put(0, -1, 7) -12", "put(0, 3, 7) -12", "put(0, MIN, 7) -12", "put(0, MAX, 7) -12",
                "put(2, 0, 7) -12");
        amid("35 the first and the last", "put(0, 0, 7) 1", "item(0, 1, 0) 7", "put(0, 2, 8) 1", "item(0, 1, 2) 8",
                "item(0, 1, 1) 25");
        long[][] narrowed = {{0, 127, 127}, {0, 128, -128}, {0, -128, -128}, {0, -129, 127}, {0, 256, 0}, {0, 255, -1},
            {1, 32767, 32767}, {1, 32768, -32768}, {1, -32768, -32768}, {1, -32769, 32767}, {1, 65536, 0}, {1, 65535, -1},
            {2, Integer.MAX_VALUE, Integer.MAX_VALUE}, {2, Integer.MIN_VALUE, Integer.MIN_VALUE},
            {3, Integer.MAX_VALUE, Integer.MAX_VALUE}, {3, Integer.MIN_VALUE, Integer.MIN_VALUE}, {3, -1, -1},
            {4, 0, 0}, {4, 1, 1}, {4, 2, 1}, {4, -1, 1}, {4, 256, 1}, {4, Integer.MIN_VALUE, 1}};
        for (long[] one : narrowed) {
            edge("35 narrowed to its sort", "sheet(1, " + one[0] + ", 3)", "put(1, 1, " + one[1] + ") 1",
                    "item(1, " + one[0] + ", 1) " + one[2], "item(1, " + one[0] + ", 0) 0", "item(1, " + one[0] + ", 2) 0");
        }
    }

    private static void item() {
        refused("36 BAD", "item(-1, 0, 0) -1", "item(4, 0, 0) -1", "item(0, -1, 0) -1", "item(0, 5, 0) -1", "item(MIN, 0, 0) -1",
                "item(MAX, 0, 0) -1", "item(0, MIN, 0) -1", "item(0, MAX, 0) -1");
        refused("36 BAD ahead of -13, -11, -12", "item(0, 5, -1) -1", "item(4, 5, 9) -1", "item(3, 5, 0) -1", "item(3, -1, 9) -1");
        refused("36 -13", "item(0, 0, 1) -13", "item(0, 2, 1) -13", "item(1, 3, 0) -13", "item(2, 0, 0) -13");
        refused("36 -13 ahead of -12", "item(0, 0, -1) -13", "item(0, 2, 3) -13", "item(1, 4, MAX) -13");
        refused("36 -11 of any sort, ahead of -12, too", "item(3, 0, 0) -11", "item(3, 1, 0) -11", "item(3, 2, 0) -11",
                "item(3, 3, 0) -11", "item(3, 4, 0) -11", "item(3, 1, -1) -11", "item(3, 1, 40) -11");
        refused("36 -12", "item(0, 1, -1) -12", "item(0, 1, 3) -12", "item(0, 1, MIN) -12", "item(0, 1, MAX) -12",
                "item(2, 4, 0) -12");
        refused("36 the first and the last", "item(0, 1, 0) 0", "item(0, 1, 2) 0", "item(1, 2, 0) -5", "item(1, 2, 1) 0");
        for (int sort = 0; sort < 4; sort++) {
            edge("36 an item may be as low as these, too", "sheet(0, " + sort + ", 1)", "put(0, 0, -12)",
                    "item(0, " + sort + ", 0) -12", "put(0, 0, -1)", "item(0, " + sort + ", 0) -1");
            for (int as = 0; as < 5; as++) {
                edge("36 taken for a sort", "sheet(0, " + sort + ", 1)", "put(0, 0, 1)",
                        "item(0, " + as + ", 0) " + (as == sort ? 1 : -13));
            }
        }
    }

    private static void times() {
        refused("37 BAD", "times(-1, 0, 1) -1", "times(4, 0, 1) -1", "times(0, 0, -1) -1", "times(0, 0, 41) -1",
                "times(MIN, 0, 1) -1", "times(MAX, 0, 1) -1", "times(0, 0, MIN) -1", "times(0, 0, MAX) -1");
        refused("37 BAD ahead of -13, -11, -12", "times(1, 0, 41) -1", "times(3, 0, -1) -1", "times(0, 9, 41) -1",
                "times(4, -1, 41) -1");
        refused("37 -13, ahead of -12, too", "times(1, 0, 1) -13", "times(2, 0, 1) -13", "times(1, -1, 1) -13", "times(1, 2, 1) -13");
        refused("37 -11, ahead of -12, too", "times(3, 0, 1) -11", "times(3, -1, 1) -11", "times(3, 40, 40) -11");
        String[] five = {"sheet(0, 1, 5)", "put(0, 0, 1)", "put(0, 1, 9999)", "put(0, 2, 0)", "put(0, 3, 10000)", "put(0, 4, -1)"};
        edgeBehind(five, "37 those that tell() refuses are left out", "times(0, 0, 5) 2", "many(0) 2", "time(0) 1", "time(1) 9999");
        edgeBehind(five, "37 none comes", "times(0, 2, 3) 0", "many(0) 0");
        edgeBehind(five, "37 n from 0", "times(0, 0, 0) 0", "times(0, 5, 0) 0", "many(0) 0");
        edgeBehind(five, "37 to the last item", "times(0, 1, 4) 1", "many(0) 1");
        edgeBehind(five, "37 -12: what stood ahead came", "times(0, 1, 5) -12", "many(0) 1", "time(0) 9999");
        edgeBehind(five, "37 -12: what stood ahead came", "times(0, 0, 40) -12", "many(0) 2");
        edgeBehind(five, "37 -12: nothing stood ahead", "times(0, -1, 3) -12", "times(0, 5, 1) -12", "times(0, MIN, 40) -12",
                "times(0, MAX, 40) -12", "times(0, 40, 1) -12", "many(0) 0");
        edge("37 n to 40", "sheet(0, 1, 40)", "put(0, 0, 3)", "put(0, 39, 4)", "times(0, 0, 40) 2", "times(0, 1, 40) -12",
                "many(0) 3", "time(2) 4");
        edgeBehind(five, "37 THE ROW becomes full", "59 x tell(7)", "times(0, 0, 2) 1", "many(0) 60", "time(59) 1",
                "times(0, 0, 2) 0", "times(0, 0, 6) -12", "many(0) 60");
    }

    private static void edgeBehind(String[] ahead, String sentence, String... steps) {
        List<String> all = new ArrayList<>(List.of(ahead));
        all.addAll(List.of(steps));
        edge(sentence, all.toArray(new String[0]));
    }

    private static void shelf() {
        refused("38 BAD: no such SHELF", "shelf(-1, 0, 0) -1", "shelf(4, 0, 0) -1", "shelf(-1, 3, 0) -1", "shelf(4, 3, 0) -1",
                "shelf(MIN, 1, 0) -1", "shelf(MAX, 2, 0) -1");
        refused("38 BAD: no such what", "shelf(0, -1, 0) -1", "shelf(0, 4, 0) -1", "shelf(0, MIN, 0) -1", "shelf(0, MAX, 0) -1");
        refused("38 BAD: no such thing", "shelf(0, 0, -1) -1", "shelf(0, 0, 2) -1", "shelf(0, 0, MAX) -1", "shelf(0, 1, -1) -1",
                "shelf(0, 1, 4) -1", "shelf(0, 1, MIN) -1", "shelf(0, 2, -1) -1", "shelf(0, 2, 4) -1", "shelf(0, 2, MAX) -1",
                "shelf(2, 0, 2) -1", "shelf(1, 2, 4) -1");
        edge("38 no RECORD at all", "shelf(0, 0, 0) -1", "record()", "shelf(0, 0, 0) 1");
        amid("38 the first and the last", "shelf(3, 0, 1) 1", "taken(3, 0) 1", "shelf(3, 0, 0) 1", "taken(3, 0) 0",
                "shelf(3, 1, 0) 1", "taken(3, 7) 0", "shelf(3, 1, 3) 1", "taken(3, 7) 3", "shelf(3, 2, 0) 1", "taken(3, 11) 3");
        edge("38 the last SHEET", "sheet(3, 3, 8)", "shelf(0, 2, 3) 1", "taken(0, 13) 8");
        amid("38 nothing, if missing", "shelf(0, 2, 3) 1", "taken(0, 0) -11");
        amid("38 nothing, whatever n is", "shelf(0, 3, MIN) 1", "taken(0, 0) -11", "shelf(1, 3, MAX) 1", "taken(1, 7) -11");
        amid("38 the one SHELF alone", "shelf(0, 3, 0) 1", "taken(1, 7) 2", "taken(2, 11) 3");
        edge("38 an empty row isn't nothing", "sheet(0, 0, 0)", "shelf(0, 2, 0) 1", "taken(0, 10) 0", "taken(0, 0) -13");
        edge("38 the row stays, whatever its SHEET becomes", "sheet(0, 0, 3)", "shelf(0, 2, 0)", "sheet(0, -1, 0)",
                "taken(0, 10) 3", "sheet(0, 1, 2)", "taken(0, 10) 3", "taken(0, 11) -13");
    }

    private static void taken() {
        refused("39 BAD", "taken(-1, 0) -1", "taken(4, 0) -1", "taken(0, -1) -1", "taken(0, 8) -1", "taken(0, 9) -1",
                "taken(0, 15) -1", "taken(MIN, 0) -1", "taken(MAX, 0) -1", "taken(0, MIN) -1", "taken(0, MAX) -1");
        refused("39 BAD ahead of -13, -11", "taken(3, 8) -1", "taken(3, -1) -1", "taken(2, 9) -1", "taken(2, 15) -1", "taken(4, 7) -1");
        for (int as = 0; as < 15; as++) {
            if (as != 8 && as != 9) {
                refused("39 a RECORD of KIND 5", "taken(0, " + as + ") " + (as == 0 || as == 5 ? 1 : -13));
                refused("39 a law", "taken(1, " + as + ") " + (as == 7 ? 2 : -13));
                refused("39 a row of shorts", "taken(2, " + as + ") " + (as == 11 ? 3 : -13));
                refused("39 nothing", "taken(3, " + as + ") -11");
            }
        }
        int[][] above = {{}, {0, 1}, {0, 2}, {0, 2, 3}, {0, 4}, {0, 5}, {0, 5, 6}};
        for (int kind = 1; kind <= 6; kind++) {
            for (int as = 0; as <= 7; as++) {
                boolean isUnder = false;
                for (int other : above[kind]) {
                    isUnder |= other == as;
                }
                edge("39 KIND " + kind + " as " + as, "record()", rowOf(kind), "record() 1", "recorded(1, 0) " + kind,
                        "shelf(0, 0, 1)", "taken(0, " + as + ") " + (isUnder ? 1 : -13));
            }
        }
        edge("39 how many items: 40", "sheet(0, 4, 40)", "shelf(0, 2, 0)", "taken(0, 14) 40");
        edge("39 the number may be 0", "record()", "shelf(0, 0, 0)", "taken(0, 6) 0", "shelf(1, 1, 0)", "taken(1, 7) 0");
    }

    private static void act() {
        String[] none = {"act(-1, 0, 5) 0", "act(4, 0, 5) 0", "act(MIN, 0, 5) 0", "act(MAX, 0, 5) 0", "act(0, -1, 5) 0",
            "act(0, 4, 5) 0", "act(0, MIN, 5) 0", "act(0, MAX, 5) 0", "act(3, 0, 5) 0", "act(2, 0, 5) 0", "act(2, 3, 5) 0"};
        for (String call : none) {
            amid("40 0, and no TRACE then", "many(4) 4", call, "many(4) 0", "trace(0) -3");
        }
        amid("40 ACTS 0 to 3", "act(0, 0, 5) 10", "act(0, 1, 5) 20", "act(0, 2, 9) 2", "act(0, 3, 5) 42");
        amid("40 of a law", "act(1, 0, 5) -5", "act(1, 1, 5) -10", "act(1, 2, 5) 0", "act(1, 3, 5) -10");
        amid("40 a RECORD that is gone", "act(0, 0, 5) 10", "again()", "act(0, 0, 5) 0", "many(4) 0");
        edge("40 KEY 0 to 3", "laws flow 5;pull 6;goes 7;left 8;", "shelf(0, 1, 0)", "act(0, 1, 1) 0", "shelf(0, 1, 1)",
                "act(0, 1, 1) 5", "shelf(0, 1, 2)", "act(0, 1, 1) 12", "shelf(0, 1, 3)", "act(0, 1, 1) 21");
    }

    /** Of a RECORD of a KIND that is on SHELF 0; as many empty ones are ahead of it as its number is. */
    private static void actOf(int kind, int number, String... steps) {
        String[] ahead = {number == 0 ? "clear()" : number + " x record()", rowOf(kind), "record()",
            "shelf(0, 0, " + number + ")"};
        edgeBehind(ahead, "40 KIND " + kind + ", RECORD " + number, steps);
    }

    /** The shortest ROW of a KIND. */
    private static String rowOf(int kind) {
        int[] periods = {0, 1, 2, 4, 3};
        return kind == 6 ? "row" : kind == 5 ? "row 1" : rowBy(periods[kind], 4 * periods[kind] - 1);
    }

    private static void actWraps() {
        // a is 3, 7, 15, 11, 1, 0
        actOf(1, 0, "act(0, 0, MAX) -2147483646", "act(0, 1, 1073741823) -2147483647", "act(0, 2, MIN) -715827882", "act(0, 3, MAX) 1");
        actOf(2, 0, "act(0, 0, MAX) -2147483618", "act(0, 1, 1073741823) -2147483588", "act(0, 2, MAX) 306783378");
        actOf(3, 0, "act(0, 2, MAX) -143165576", "act(0, 0, MAX) -2147483575");
        actOf(4, 0, "act(0, 0, MAX) -2147483638", "act(0, 1, MAX) -20", "act(0, 1, -11) 0");
        actOf(5, 0, "act(0, 2, MIN) 2147483647", "act(0, 3, 1073741823) 0");
        actOf(6, 1, "act(0, 0, MIN) 2147483642", "act(0, 2, -2147483647) -2147483647", "act(0, 2, MIN) -2147483648");
        actOf(6, 2, "act(0, 2, MIN) -1073741824");
        edge("40 a law: ints wrap", "laws left 9999 ; goes 9999 * 9999 * 9999 ;", "shelf(0, 1, 3)", "act(0, 0, MIN) -2147473649",
                "shelf(0, 1, 2)", "act(0, 0, MAX) 1120133680", "act(0, 1, MAX) -2054699936", "act(0, 2, -1) -1027349969");
    }

    private static void partedByZero() {
        actOf(6, 0, "act(0, 2, 9) -15", "many(4) 3", "trace(0) 71", "trace(1) 61", "trace(2) 12", "trace(3) -3");
        actOf(5, 1, "act(0, 2, 9) -15", "many(4) 2", "trace(0) 61", "trace(1) 12");
        actOf(1, 3, "act(0, 2, 9) -15", "many(4) 1", "trace(0) 12", "act(0, 2, 0) -15", "act(0, 0, 9) 12", "many(4) 1");
        actOf(5, 2, "act(0, 2, 9) -8", "act(0, 2, 0) 1");
        actOf(1, 2, "act(0, 2, 9) 9");
        actOf(1, 4, "act(0, 2, 9) -9");
        actOf(6, 0, "act(0, 3, 9) 12", "act(0, 2, 9) -15", "act(0, 3, 9) 12");
    }

    private static void trace() {
        edge("41 NONE, no act() yet", "trace(0) -3", "trace(-1) -3");
        refused("41 NONE", "trace(-1) -3", "trace(4) -3", "trace(MIN) -3", "trace(MAX) -3", "trace(29) -3", "trace(30) -3");
        refused("41 the first and the last", "trace(0) 60", "trace(1) 13", "trace(2) 11", "trace(3) 10");
        amid("41 the latest act() alone", "act(1, 3, 5)", "many(4) 4", "trace(0) 83", "trace(1) 81", "trace(2) 80", "trace(3) 82",
                "act(1, 0, 5)", "many(4) 1", "trace(0) 80", "trace(1) -3");
        actOf(3, 1, "act(0, 3, 5)", "many(4) 8", "trace(0) 31", "trace(1) 13", "trace(2) 11", "trace(3) 40", "trace(4) 30",
                "trace(5) 10", "trace(6) 41", "trace(7) 12", "trace(8) -3");
    }

    private static void many() {
        refused("42 BAD: another what", "many(-1) -1", "many(6) -1", "many(MIN) -1", "many(MAX) -1");
        refused("42 how many", "many(0) 6", "many(1) 2", "many(2) 3", "many(3) 6", "many(4) 4", "many(5) 4");
        edge("42 what is full", "60 x tell(7)", "6 x record()", "prove(12)", "25 x feed(32, 8)", "many(0) 60", "many(1) 6",
                "many(2) 12", "many(3) 200", "tell(7) -2", "record() -2", "feed(32, 1) -2", "many(0) 60", "many(1) 6", "many(3) 200");
    }

    private static void keep() {
        amid("43 what is kept", "keep() 1", "run(9)", "set(0, 1)", "set(1, 1)", "seed(1)", "record()", "read()", "laws goes 0 ;", "clear()",
                "again() 1", "tap(0) 10", "tap(3) 26", "tap(4) 1", "tap(5) 5", "tap(6) 44", "tap(7) 4", "many(0) 6", "many(1) 2",
                "many(5) 4", "says(0) 7");
        edge("43 z is kept", "seed(9)", "keep() 1", "seed(8)", "again() 1", "seed(0) 9");
        edge("43 water is kept", "laws flow 999 ; goes 0 ;", "run(101)", "keep()", "begin(0, 0, 0)", "water() 0", "again()",
                "water() 900", "begin(7, 0, 0)", "keep()", "run(1)", "again()", "water() 0");
        amid("43 all but THE TAPE, ROWS, SHEETS, SHELVES, THE TRACE", "keep() 1", "feed(32, 2) 8", "prove(1)", "put(0, 1, 26)",
                "sheet(3, 2, 4)", "shelf(3, 1, 1)", "act(1, 0, 5)", "again() 1", "many(3) 8", "many(2) 1", "item(0, 1, 1) 26",
                "item(3, 2, 3) 0", "taken(3, 7) 1", "many(4) 1", "trace(0) 80");
        edge("43 nothing at all", "keep() 1", "tell(5)", "run(3)", "again() 1", "many(0) 0", "tap(3) 0");
        edge("43 all that is full", "60 x tell(7)", "6 x record()", "keep() 1", "clear()", "again() 1", "many(0) 60", "many(1) 6",
                "time(59) 7", "recorded(5, 62) 7");
    }

    private static void again() {
        edge("44 NONE: nothing is kept", "tell(5)", "again() -3", "many(0) 1");
        edge("44 what was kept stays", "tell(5)", "keep()", "tell(6)", "again() 1", "tell(7)", "record()", "again() 1", "many(0) 1",
                "many(1) 0", "time(0) 5", "again() 1", "many(0) 1");
        edge("44 what was kept latest", "tell(5)", "keep()", "tell(6)", "keep()", "tell(7)", "again() 1", "many(0) 2");
        edge("44 a RECORD that is gone, and a new one", "keep()", "tell(5)", "record()", "shelf(0, 0, 0)", "taken(0, 5) 0", "again()",
                "taken(0, 5) -11", "record() 0", "taken(0, 6) 0");
        edge("44 a RECORD that is back", "row 5", "record()", "keep()", "row 5 6", "record()", "shelf(0, 0, 1)", "again()",
                "shelf(1, 0, 0) 1", "shelf(1, 0, 1) -1", "taken(0, 0) -11", "recorded(1, 0) -1");
        amid("44 THE TAP goes on as it did", "keep()", "run(40) 8", "tap(1)", "again()", "run(40) 8");
    }
}
