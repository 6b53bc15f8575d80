/** For each sentence of "Terms" in ../shared/DOC.md that names a boundary case a run of its own. */
public final class TermsEdgesTest {
    private static final Edges EDGES = new Edges();
    private static final String STILL = "flow 0 ; pull 0 ; goes 0 ;";

    public static void main(String[] args) {
        fractionsAndQuotients();
        atFirst();
        lawsAtFirst();
        flow();
        weight();
        pull();
        speed();
        shake();
        sway();
        goes();
        left();
        halves();
        theRow();
        eachInItsTurn();
        trials();
        tape();
        lawsOfAText();
        sums();
        numbers();
        names();
        wraps();
        byZero();
        compared();
        words();
        blanks();
        open();
        faultsAtTheStart();
        faultsInAnE();
        faultsAtTheEnd();
        System.out.println(EDGES.asked() + " answers asked, " + EDGES.wrong() + " not as due");
        if (EDGES.wrong() != 0) {
            System.exit(1);
        }
    }

    private static void edge(String sentence, String... steps) {
        EDGES.edge(sentence, steps);
    }

    /** The text, what read() answers, and that it is used up. */
    private static void reads(String sentence, String text, int due) {
        edge(sentence + ": '" + text + "'", "text " + text, "read() " + due, "many(3) 0");
    }

    /** What the E is. */
    private static void says(String sentence, String e, int due) {
        edge(sentence + ": " + e, "text pull " + e + ";", "read() 1", "says(1) " + due);
    }

    private static void fractionsAndQuotients() {
        String row = "row 5 5 5 5 9 9";
        // twos of like TIMES with one behind: the first four and, of the 9s, none: 6; like behind: the first three: 3
        edge("fractions are told in lowest terms", row, "rule(0, 0) 1", "rule(0, 1) 2");
        edge("of 0 it is 1", "row 5 1 5 2 5 3 5 4", "rule(0, 0) 0", "rule(0, 1) 1");
        says("quotients are cut towards 0", "7 / 2", 3);
        says("quotients are cut towards 0", "- 7 / 2", -3);
        says("quotients are cut towards 0", "7 / - 2", -3);
        says("quotients are cut towards 0", "- 7 / - 2", 3);
        edge("quotients are cut towards 0", "row 10 10 15", "drift(1) 19998");
        edge("quotients are cut towards 0", "row 15 15 10", "drift(1) 20002");
    }

    // ---- 1 THE TAP

    private static void atFirst() {
        edge("a WEIGHT (0 at first), a SWAY, a SPEED, a TICK, SINCE, DROPS, a KNOB (10), a SHAKE (0)", "tap(0) 0",
                "tap(1) 10000", "tap(2) 10000", "tap(3) 0", "tap(4) 0", "tap(5) 0", "tap(6) 10", "tap(7) 0");
        edge("z (1 at first)", "seed(0) 1");
        edge("a KNOB (0 to 99)", "set(0, -1) -1", "set(0, 100) -1", "set(0, 0) 10", "set(0, 99) 0", "tap(6) 99");
        edge("a SHAKE (0 to 99)", "set(1, -1) -1", "set(1, 100) -1", "set(1, 99) 0", "set(1, 0) 99", "tap(7) 0");
    }

    private static void lawsAtFirst() {
        edge("flow knob", "set(0, 0)", "run(1)", "tap(0) 0", "set(0, 99)", "run(1)", "tap(0) 99");
        edge("pull sway / 4", "begin(0, 4, 0)", "run(1)", "tap(2) 9999");
        edge("pull sway / 4", "begin(0, 3, 0)", "run(1)", "tap(2) 10000");
        edge("pull sway / 4", "begin(0, -3, 0)", "run(1)", "tap(2) 10000");
        edge("pull sway / 4", "begin(0, -4, 0)", "run(1)", "tap(2) 10001");
        edge("goes weight > 100", "begin(90, 0, 0)", "run(1) 0", "tap(0) 100");
        edge("goes weight > 100", "begin(91, 0, 0)", "run(1) 1", "prove(1)", "tap(0) 20");
        edge("left weight / 5 + sway", "set(0, 0)", "begin(104, -20, 0)", "run(1) 1", "tap(0) 5");
        edge("left is held to 0, to WEIGHT", "set(0, 0)", "begin(104, -999, 0)", "run(1) 1", "tap(0) 0");
        edge("left is held to 0, to WEIGHT", "set(0, 0)", "begin(104, 999, 0)", "run(1) 1", "tap(0) 104");
    }

    private static void flow() {
        edge("flow held to 0", "laws flow - 1 ; goes 0 ;", "begin(5, 0, 0)", "run(1)", "tap(0) 5");
        edge("flow from 0 on", "laws flow 0 ; goes 0 ;", "begin(5, 0, 0)", "run(1)", "tap(0) 5");
        edge("flow from 0 on", "laws flow 1 ; goes 0 ;", "begin(5, 0, 0)", "run(1)", "tap(0) 6");
        edge("flow to 999", "laws flow 998 ; goes 0 ;", "run(1)", "tap(0) 998");
        edge("flow to 999", "laws flow 999 ; goes 0 ;", "run(1)", "tap(0) 999");
        edge("flow held to 999", "laws flow 1000 ; goes 0 ;", "run(1)", "tap(0) 999");
        edge("flow held to 999", "laws flow 9999 * 9999 ; goes 0 ;", "run(1)", "tap(0) 999");
        edge("a flow that wrapped is below 0", "laws flow 9999 * 9999 * 9999 ; goes 0 ;", "run(1)", "tap(0) 0");
    }

    private static void weight() {
        String[] heavy = {"laws flow 900 ; goes 0 ;", "begin(9998, 0, 0)", "run(100)", "tap(0) 99998"};
        edge("WEIGHT to 99999", heavy[0], "begin(9999, 0, 0)", "run(100)", "tap(0) 99999", "water() 0");
        edge("WEIGHT is held to 99999", heavy[0], heavy[1], heavy[2], heavy[3], "run(1)", "tap(0) 99999", "water() 899");
        edge("and once more", heavy[0], heavy[1], heavy[2], "run(2)", "tap(0) 99999", "water() 1799");
    }

    private static void pull() {
        String[][] held = {{"998", "999", "10001"}, {"999", "999", "10000"}, {"1000", "999", "10000"},
            {"9999 * 9999", "999", "10000"}, {"- 998", "-999", "9999"}, {"- 999", "-999", "10000"},
            {"- 1000", "-999", "10000"}, {"- 9999 * 9999", "-999", "10000"}};
        for (String[] one : held) {
            edge("pull held to -999 to 999", "laws flow 0 ; pull " + one[0] + " ; goes 0 ;", "begin(0, 0, " + one[1] + ")",
                    "run(1)", "tap(2) " + one[2]);
        }
    }

    private static void speed() {
        String[][] held = {{"- 1", "998", "10999"}, {"- 2", "998", "10999"}, {"1", "-998", "9001"}, {"2", "-998", "9001"},
            {"- 999", "999", "10999"}, {"999", "-999", "9001"}, {"- 1", "997", "10998"}, {"1", "-997", "9002"}};
        for (String[] one : held) {
            edge("SPEED is held to -999 to 999", "laws flow 0 ; pull " + one[0] + " ; goes 0 ;",
                    "begin(0, 0, " + one[1] + ")", "run(1)", "tap(2) " + one[2], "tap(1) " + one[2]);
        }
    }

    private static void shake() {
        edge("if SHAKE is 0, z stays", "laws " + STILL, "seed(5) 1", "run(3)", "tap(2) 10000", "seed(0) 5");
        edge("less SHAKE: the least", "laws " + STILL, "set(1, 1)", "seed(0)", "run(1)", "tap(2) 9999", "seed(0) 12345");
        edge("2 SHAKE less SHAKE: the most", "laws " + STILL, "set(1, 1)", "seed(1)", "run(1)", "tap(2) 10001",
                "seed(0) 1103527590");
        edge("the least of the most SHAKE", "laws " + STILL, "set(1, 99)", "seed(0)", "run(1)", "tap(2) 9901");
        // 139 * 1103515245 + 12345 wraps to -1230191256; its upper half, 46764, leaves 198 by 199
        edge("the most of the most SHAKE", "laws " + STILL, "set(1, 99)", "seed(139)", "run(1)", "tap(2) 10099",
                "seed(0) -1230191256");
        // 2 * 1103515245 + 12345 wraps to -2087924461; its upper half, 33676, leaves 1 by 5
        edge("z is an int that wraps, and >>> has no sign", "laws " + STILL, "set(1, 2)", "seed(2)", "run(1)",
                "tap(2) 9999", "seed(0) -2087924461");
        edge("from the least int", "laws " + STILL, "set(1, 1)", "seed(MIN)", "run(1)", "seed(0) -2147471303");
        edge("SPEED is held behind the shake, too", "laws " + STILL, "set(1, 1)", "seed(1)", "begin(0, -500, 999)",
                "run(1)", "tap(2) 10999", "tap(1) 10499");
        edge("SPEED is held behind the shake, too", "laws " + STILL, "set(1, 1)", "seed(0)", "begin(0, 500, -999)",
                "run(1)", "tap(2) 9001", "tap(1) 9501");
        edge("SPEED is held behind the shake alone", "laws flow 0 ; pull 1 ; goes 0 ;", "set(1, 1)", "seed(1)",
                "begin(0, 0, -999)", "run(1)", "tap(2) 9001");
        edge("each TICK shakes anew", "laws " + STILL, "set(1, 1)", "seed(0)", "run(2)", "seed(0) -740551042");
    }

    private static void sway() {
        edge("SWAY to 999", "laws " + STILL, "begin(0, 998, 1)", "run(1)", "tap(1) 10999", "tap(2) 10001");
        edge("beyond it is held, and SPEED is 0", "laws " + STILL, "begin(0, 999, 1)", "run(1)", "tap(1) 10999",
                "tap(2) 10000");
        edge("SWAY to -999", "laws " + STILL, "begin(0, -998, -1)", "run(1)", "tap(1) 9001", "tap(2) 9999");
        edge("beyond it is held, and SPEED is 0", "laws " + STILL, "begin(0, -999, -1)", "run(1)", "tap(1) 9001",
                "tap(2) 10000");
        edge("at the bound with SPEED 0", "laws " + STILL, "begin(0, 999, 0)", "run(1)", "tap(1) 10999", "tap(2) 10000");
        edge("from bound to bound", "laws " + STILL, "begin(0, -999, 999)", "run(2)", "tap(1) 10999", "tap(2) 10999",
                "run(1)", "tap(2) 10000");
    }

    private static void goes() {
        edge("if goes isn't 0: 0", "laws flow 0 ; pull 0 ; goes 0 ;", "run(1) 0", "tap(4) 1", "tap(5) 0", "many(0) 0");
        edge("if goes isn't 0: 1", "laws flow 0 ; pull 0 ; goes 1 ;", "run(1) 1", "tap(4) 0", "tap(5) 1", "time(0) 1");
        edge("if goes isn't 0: -1", "laws flow 0 ; pull 0 ; goes - 1 ;", "run(1) 1");
        edge("if goes isn't 0: 2", "laws flow 0 ; pull 0 ; goes 2 ;", "run(1) 1");
        edge("if goes isn't 0: the least int", "laws goes 0 - 8192 * 8192 * 32 ;", "run(1) 1");
        edge("if goes isn't 0: wrapped to 0", "laws goes 8192 * 8192 * 64 ;", "run(1) 0");
        edge("SINCE as its TIME", "laws goes since = 3 ; pull 0 ;", "run(2) 0", "run(1) 1", "time(0) 3", "tap(4) 0",
                "run(3) 1", "time(1) 3", "tap(3) 6", "tap(5) 2");
    }

    private static void left() {
        String[][] held = {{"- 1", "0", "50"}, {"0", "0", "50"}, {"1", "1", "49"}, {"49", "49", "1"}, {"50", "50", "0"},
            {"51", "50", "0"}, {"9999 * 9999", "50", "0"}, {"9999 * 9999 * 9999", "0", "50"}};
        for (String[] one : held) {
            edge("left held to 0 to WEIGHT", "laws flow 0 ; pull 0 ; goes 1 ; left " + one[0] + " ;", "begin(50, 0, 0)",
                    "prove(1) 1", "row(0, 1) " + one[2], "run(1) 1", "tap(0) " + one[1]);
        }
        edge("of WEIGHT 0", "laws flow 0 ; pull 0 ; goes 1 ; left 1 ;", "prove(1) 1", "row(0, 1) 0", "run(1)", "tap(0) 0");
    }

    private static void halves() {
        String drop = "laws flow 0 ; pull 0 ; goes 1 ; left 0 ;";
        int[][] swayed = {{0, 0}, {1, 0}, {-1, 0}, {2, -1}, {-2, 1}, {3, -1}, {-3, 1}, {999, -499}, {-999, 499}};
        for (int[] one : swayed) {
            edge("SWAY is 0 less its half (cut)", drop, "begin(0, " + one[0] + ", 0)", "run(1)",
                    "tap(1) " + (10000 + one[1]), "tap(2) 10000");
            edge("SPEED is 0 less its half (cut)", drop, "begin(0, 0, " + one[0] + ")", "run(1)",
                    "tap(2) " + (10000 + one[1]), "tap(1) " + (10000 + one[1]));
        }
    }

    private static void theRow() {
        edge("THE ROW: 60 at most", "59 x tell(7)", "laws goes 1 ;", "run(1) 1", "many(0) 60", "time(59) 1");
        edge("its TIME comes if it isn't full", "60 x tell(7)", "laws goes 1 ;", "run(2) 2", "many(0) 60", "time(59) 7",
                "time(60) -3", "tap(5) 2");
        String[] late = {"laws pull 0 ; goes since = 9999 + 2 ;", "tell(3) 1", "25 x run(400)", "many(0) 1", "run(1) 1",
            "time(1) 10001", "span(1) 10001"};
        edge("a TIME may be above 9999", late);
        edge("and is told so", late[0], late[1], late[2], late[4], "tell(2) 3", "hits(1, 9998) 0", "hits(1, 9999) 1");
        edge("and is told so", late[0], late[1], late[2], late[4], "tell(1) 3", "hits(1, 9999) 0");
    }

    private static void eachInItsTurn() {
        edge("flow sees the TICK and SINCE that are 1 more", "laws flow tick * 10 + since ; goes 0 ;", "run(1)", "tap(0) 11");
        edge("flow sees WEIGHT as it was", "laws flow weight ; goes 0 ;", "begin(3, 0, 0)", "run(1)", "tap(0) 6");
        edge("pull sees the WEIGHT that is more", "laws flow 5 ; pull weight ; goes 0 ;", "run(1)", "tap(2) 9995");
        edge("pull sees SPEED and SWAY as they were", "laws flow 0 ; pull speed + sway ; goes 0 ;", "begin(0, 2, 7)", "run(1)",
                "tap(2) 9998");
        edge("pull sees SPEED ahead of the shake", "laws flow 0 ; pull speed ; goes 0 ;", "set(1, 1)", "seed(1)", "begin(0, 0, 5)",
                "run(1)", "tap(2) 10001");
        edge("goes sees SWAY and SPEED that are held", "laws flow 0 ; pull 0 ; goes ( sway = 999 ) * ( speed = 0 ) ;",
                "begin(0, 999, 9)", "run(1) 1");
        edge("left sees DROPS, SINCE, SWAY, SPEED ahead of the drop",
                "laws flow 0 ; pull 0 ; goes 1 ; left drops * 1000 + since * 100 + sway * 10 + speed ;", "begin(9999, 4, 2)",
                "run(1)", "tap(0) 162");
    }

    private static void trials() {
        edge("a TRIAL has an empty ROW", "60 x tell(7)", "laws goes 1 ; pull 0 ;", "grid(0) 1", "prove(12) 12",
                "row(0, 0) 1", "time(0) 7");
        edge("a TRIAL goes on from THE TAP as it is", "laws flow 0 ; pull 0 ; goes since = 300 ;", "prove(2) 1", "run(299)",
                "prove(3) 2", "row(0, 0) 300", "row(1, 0) 300");
        edge("a TRIAL has SHAKE and z", "laws " + "flow 0 ; pull 0 ; goes speed > 0 ;", "set(1, 1)", "seed(1)",
                "prove(1) 1", "row(0, 0) 1", "seed(0) 1", "prove(1)", "judge() 0");
        edge("the ROW of a TRIAL has 60 TIMES", "laws pull 0 ; goes since > ( drops > 59 ) * drops ;", "grid(0) 1",
                "touch(400) 100");
        edge("the 60th counts", "laws pull 0 ; goes since > ( drops > 58 ) * drops ;", "grid(0) 0", "touch(400) -3");
    }

    // ---- 2 TEXTS

    private static void tape() {
        edge("200 at most", "25 x feed(0x2020202020202020, 8)", "many(3) 200", "feed(32, 1) -2", "read() 0", "many(3) 0",
                "feed(32, 1) 1");
        edge("read() uses it up", "text flow 7 ;", "read() 1", "many(3) 0", "says(0) 7", "read() 0", "says(0) 10");
        edge("read() uses it up when refused, too", "text flow 7", "many(3) 6", "read() -106", "many(3) 0", "says(0) 10");
    }

    private static void lawsOfAText() {
        reads("no law", "", 0);
        reads("each KEY", "flow 1;pull 2;goes 3;left 4;", 4);
        reads("each KEY in any order", "left 1;goes 2;pull 3;flow 4;", 4);
        reads("8 at most", "flow 1;flow 2;flow 3;flow 4;flow 5;flow 6;flow 7;flow 8;", 1);
        reads("8 at most", "flow 1;pull 2;goes 3;left 4;flow 5;pull 6;goes 7;left 8;", 4);
        reads("the KEY of the ninth", "flow 1;flow 2;flow 3;flow 4;flow 5;flow 6;flow 7;flow 8;flow 9;", -156);
        reads("the KEY of the ninth", "flow 1;flow 2;flow 3;flow 4;flow 5;flow 6;flow 7;flow 8; left", -157);
        edge("one TEXT behind the other", "begin(101, 40, 0)", "150 x laws left 3 ;", "says(0) 10", "says(1) 10", "says(2) 1",
                "says(3) 3", "50 x read()", "says(0) 10", "says(1) 10", "says(2) 1", "says(3) 60", "many(5) 0");
        edge("of one told twice the last counts", "text goes 5;flow 1;goes 6;", "read() 2", "says(2) 6", "many(5) 2");
    }

    private static void sums() {
        says("SUM: one alone", "5", 5);
        says("SUM: many", "1 + 2 - 3 + 4 - 5", -1);
        says("TERM: many", "7 * 8 / 5 % 4 * 3", 9);
        says("from the left", "10 - 3 - 2", 5);
        says("from the left", "100 / 7 / 2", 7);
        says("TERM ahead of SUM", "2 + 3 * 4 - 8 / 2", 10);
        says("SUM ahead of <", "1 + 1 < 3 - 0", 1);
        says("- ONE ahead of TERM", "- 7 / 2 * 2", -6);
        says("- ONE behind a sign", "2 - - 3 * - 1", -1);
        reads("once at most", "flow 1 < 2;", 1);
        reads("once at most", "flow 1 < 2 < 3;", -111);
        reads("once at most", "flow 1 = 2 > 3;", -111);
        reads("once at most, but in brackets anew", "flow (1 < 2) < (2 > 1);", 1);
        reads("once at most within brackets", "flow (1 < 2 = 3);", -112);
    }

    private static void numbers() {
        says("NUMBERS from 0", "0", 0);
        says("NUMBERS to 9999", "9999", 9999);
        says("rows of 4 digits", "0000", 0);
        says("rows of 4 digits, the first ones 0", "0010", 10);
        reads("a NUMBER of more digits", "flow 10000;", -105);
        reads("a NUMBER of more digits", "flow 00000;", -105);
        reads("a NUMBER of more digits", "flow 1 + 99999;", -109);
        reads("a NUMBER of many digits", "flow 123456789012345678901234567890;", -105);
        reads("the byte below 0 is a sign", "flow 8/4;", 1);
        reads("the byte above 9 can't stand", "flow 8:4;", -106);
    }

    private static void names() {
        String[] names = {"weight 110", "sway 12", "speed 5", "tick 1", "since 1", "drops 0", "knob 10"};
        for (String name : names) {
            String[] parts = name.split(" ");
            edge("NAMES: " + name, "laws goes 0 ; pull " + parts[0] + " ;", "begin(100, 7, 12)",
                    "says(1) " + (parts[0].equals("speed") ? 12 : parts[0].equals("weight") ? 100
                    : parts[0].equals("sway") ? 7 : parts[0].equals("knob") ? 10 : 0));
        }
        String digits = "laws pull since * 1000 + tick * 100 + drops * 10 + knob ; goes tick = 2 ;";
        edge("NAMES as they are now", digits, "set(0, 7)", "run(5)", "says(1) 3517");
        String[] wrong = {"weigh", "weights", "weighs", "ways", "swa", "sways", "speeds", "ticks", "since0since", "drop",
            "dropss", "knobs", "x", "aknob", "flow", "pull", "goes", "left", "shake", "z"};
        for (String name : wrong) {
            reads("no NAME", "flow " + name + ";", name.equals("since0since") ? -110 : -105);
        }
        String[] keys = {"flo", "flows", "aflow", "pul", "pulls", "goe", "goesx", "lef", "lefts", "weight", "a", "zflow"};
        for (String key : keys) {
            reads("no KEY", key + " 1;", -100);
        }
    }

    private static void wraps() {
        String most = "( 8192 * 8192 * 32 - 1 )";
        says("the greatest int", most, Integer.MAX_VALUE);
        says("+ wraps", most + " + 1", Integer.MIN_VALUE);
        says("- wraps", "- " + most + " - 2", Integer.MAX_VALUE);
        says("* wraps", most + " * 2", -2);
        says("* wraps", "9999 * 9999 * 9999", -1027349969);
        says("- of the least", "- ( 8192 * 8192 * 32 )", Integer.MIN_VALUE);
        says("the least by -1", "8192 * 8192 * 32 / - 1", Integer.MIN_VALUE);
        says("what the least leaves by -1", "8192 * 8192 * 32 % - 1", 0);
        says("< of the ends", "- " + most + " - 1 < " + most, 1);
        says("> of the ends", "- " + most + " - 1 > " + most, 0);
    }

    private static void byZero() {
        says("by 0 / gives 0", "9 / 0", 0);
        says("by 0 % gives 0", "9 % 0", 0);
        says("by 0 / gives 0, and it goes on", "9 / 0 + 4", 4);
        says("by 0 % gives 0, and it goes on", "9 % ( 2 - 2 ) + 4", 4);
        says("0 by 0", "0 / 0", 0);
        says("by what is 0 now", "7 / tick", 0);
        says("by 1", "9 / 1", 9);
        says("by 1", "9 % 1", 0);
        says("by -1", "9 / - 1", -9);
        says("% has the sign of what is parted", "- 9 % 4", -1);
        says("% has the sign of what is parted", "9 % - 4", 1);
    }

    private static void compared() {
        int[][] twos = {{1, 2}, {2, 2}, {3, 2}};
        for (int[] two : twos) {
            says("<", two[0] + " < " + two[1], two[0] < two[1] ? 1 : 0);
            says("=", two[0] + " = " + two[1], two[0] == two[1] ? 1 : 0);
            says(">", two[0] + " > " + two[1], two[0] > two[1] ? 1 : 0);
        }
        says("below 0", "- 1 < 0", 1);
        says("below 0", "0 > - 1", 1);
    }

    private static void words() {
        reads("WORDS are as long as they go", "flowflow 1;", -100);
        reads("WORDS are as long as they go", "flowweight;", -100);
        reads("WORDS are as long as they go", "flow weightsway;", -105);
        reads("a WORD of the first and the last letter", "az 1;", -100);
        reads("the byte behind z ends a WORD", "flow{", -104);
        reads("the byte ahead of a ends a WORD", "flow`", -104);
        reads("a great letter ends a WORD", "flowA 1;", -104);
        reads("a great letter is no letter", "Flow 1;", -100);
        reads("a digit ends a WORD", "flow1;", 1);
        reads("a letter ends a NUMBER", "flow 1pull", -106);
        reads("WORDS and NUMBERS next to signs", "flow(weight+1)*knob-2;pull-3;", 2);
        reads("two NUMBERS parted by a blank", "flow 12 34;", -108);
        reads("two NAMES parted by a blank", "flow sway speed;", -110);
    }

    private static void blanks() {
        reads("blanks stand as one likes", "   flow   (   1   )   ;   ", 1);
        reads("blanks alone", " ", 0);
        reads("blanks within a WORD part it", "fl ow 1;", -100);
        reads("byte 9 is no blank", "flow\t1;", -104);
        reads("byte 10 is no blank", "flow 1;\n", -107);
        reads("byte 13 is no blank", "\rflow 1;", -100);
        reads("byte 160 is no blank", "flow\u00a01;", -104);
        reads("byte 0 is no blank", "flow 1;\u0000", -107);
        reads("byte 31 is no blank", "\u001f", -100);
        reads("byte 33 is no blank", "!", -100);
        reads("byte 255", "flow \u00ff", -105);
        reads("byte 128", "\u0080", -100);
    }

    private static void open() {
        reads("4 of ( are open", "flow ((((1))));", 1);
        reads("the fifth (", "flow (((((1)))));", -109);
        reads("4 of - are open", "flow ----1;", 1);
        reads("the fifth -", "flow -----1;", -109);
        reads("4 of both", "flow -(-(1));", 1);
        reads("4 of both", "flow (-(-1));", 1);
        reads("the fifth is -", "flow -(-(-1));", -109);
        reads("the fifth is (", "flow (-(-(1)));", -109);
        reads("the fifth is ( behind 4 of -", "flow ----(1);", -109);
        reads("the fifth is - behind 4 of (", "flow ((((-1))));", -109);
        reads("- between two TERMS opens none", "flow ((((1-1))));", 1);
        reads("- behind it does", "flow ((((1--1))));", -111);
        reads("- is open till its ONE ends", "flow (-1+(((1))));", 1);
        reads("- is open till its ONE ends", "flow (-1+((((1)))));", -112);
        reads("- is open while its ONE isn't ended", "flow -((1)+((1)));", 1);
        reads("- is open while its ONE isn't ended", "flow -((1)+(((1))));", -113);
        reads("( is open till )", "flow (1)+((((1))));", 1);
        reads("( is open till )", "flow (1)+(((((1)))));", -113);
        reads("all are closed behind ;", "flow ----1;pull ((((1))));", 2);
        says("what 4 of - are", "----7", 7);
        says("what 3 of - are", "---7", -7);
        says("what is in 4 of (", "((((1+2)*3)+4)*5)", 65);
    }

    private static void faultsAtTheStart() {
        String[] wrong = {"5", "+", "-", ";", "(", ")", "*", "/", "%", "<", "=", ">", "weight 1;", "x", "?"};
        for (String text : wrong) {
            reads("no KEY can stand so", text, -100);
            reads("the place counts blanks", "  " + text, -102);
            reads("the place counts what stands ahead", "flow 1;" + text, -107);
        }
    }

    private static void faultsInAnE() {
        String[] noOne = {";", ")", "+", "*", "/", "%", "<", "=", ">", "flow", "x", "?", "12345"};
        for (String part : noOne) {
            reads("no ONE, behind a KEY", "flow " + part, -105);
            reads("no ONE, behind +", "flow 1 + " + part, -109);
            reads("no ONE, behind a sign of a TERM", "flow 1 % " + part, -109);
            reads("no ONE, behind <", "flow 1 < " + part, -109);
            reads("no ONE, behind -", "flow - " + part, -107);
            reads("no ONE, behind (", "flow ( " + part, -107);
        }
        String[] noSign = {"1", "12345", "weight", "pull", "(", "x", "?"};
        for (String part : noSign) {
            reads("no sign, behind a NUMBER", "flow 1 " + part, -107);
            reads("no sign, behind a NAME", "flow knob " + part, -110);
            reads("no sign, behind )", "flow (1) " + part, -109);
        }
        reads(") that closes nothing", "flow 1 );", -107);
        reads(") that closes nothing", "flow (1));", -108);
        reads("; where ) must stand", "flow (1;", -107);
        reads("the first of two faults", "flow 1 2 3 ?", -107);
        reads("the first of two faults", "flow ? ; x", -105);
    }

    private static void faultsAtTheEnd() {
        String[] more = {"flow", "flow ", "flow 1", "flow 1 ", "flow 1 +", "flow 1 <", "flow -", "flow (", "flow (1",
            "flow (1)", "flow 1 < 2", "flow weight", "flow 1;pull", "flow 1;pull 2", "flow 9999"};
        for (String text : more) {
            reads("the end, if more must come", text, -100 - text.length());
        }
        StringBuilder full = new StringBuilder("flow 1");
        while (full.length() < 200) {
            full.append("+1");
        }
        reads("the end of a full TAPE", full.toString(), -300);
        full.setLength(199);
        full.setCharAt(198, '*');
        full.setCharAt(197, ' ');
        reads("a fault at the last places", full.toString(), -298);
        full.setLength(196);
        reads("an E that fills THE TAPE", full + "   ;", 1);
        says("a long E", "1" + "+1".repeat(90), 91);
    }
}
