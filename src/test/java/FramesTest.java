import java.util.ArrayList;
import java.util.EnumSet;
import java.util.List;
import java.util.Set;

/** For each call what it changes of all that an object holds, and that it leaves all else as it was. */
public final class FramesTest {
    private enum Part { TAP, KNOB, SHAKE, Z, ROW, LAWS, TAPE, ROWS, RECORDS, SHEETS, SHELVES, TRACE, KEPT }

    private static final Set<Part> THAT_IS_KEPT = EnumSet.of(Part.TAP, Part.KNOB, Part.SHAKE, Part.Z, Part.ROW, Part.LAWS,
            Part.RECORDS);
    private static final Set<Part> ALL = EnumSet.allOf(Part.class);

    /** Behind these there is something in each part, and what is kept is unlike what is there. */
    private static final List<String> AHEAD = List.of("laws flow 7 ; pull 1 ; goes since = 5 ; left 3 ;", "begin(50, 20, -3)",
            "set(0, 33)", "set(1, 4)", "seed(77)", "run(23)", "record()", "keep()",
            "laws flow knob ; goes weight > 140 ; left tick % 9 ;", "begin(60, 10, -7)", "run(40)", "tell(9)", "record()", "set(0, 44)",
            "set(1, 6)", "seed(78)", "prove(3)", "sheet(0, 1, 3)", "put(0, 1, 25)", "sheet(1, 2, 2)", "put(1, 0, -5)", "sheet(2, 4, 0)",
            "shelf(0, 0, 0)", "shelf(1, 1, 2)", "shelf(2, 2, 0)", "text flow 5", "act(0, 3, 5)");

    private static final Edges EDGES = new Edges();
    private static int looked;
    private static int wrong;

    public static void main(String[] args) {
        ofTheTap();
        ofTheRest();
        asking();
        again();
        System.out.println(looked + " parts looked at, " + wrong + " not as due; " + EDGES.asked() + " answers asked, "
                + EDGES.wrong() + " not as due");
        if (wrong + EDGES.wrong() != 0) {
            System.exit(1);
        }
    }

    private static void ofTheTap() {
        changes("begin(1, 2, 3) 1", Part.TAP, Part.ROW);
        changes("begin(9999, -999, 999) 1", Part.TAP, Part.ROW);
        changes("set(0, 5) 44", Part.KNOB);
        changes("set(0, 44) 44");
        changes("set(1, 0) 6", Part.SHAKE);
        changes("set(1, 6) 6");
        changes("seed(5) 78", Part.Z);
        changes("seed(78) 78");
        changes("run(0) 0");
        changes("run(400)", Part.TAP, Part.ROW, Part.Z);
        changes("run(1) 0", Part.TAP, Part.Z);
        changes("feed(59, 1) 7", Part.TAPE);
        changes("read() -106", Part.TAPE);
        changes("tell(9)", Part.ROW);
        changes("clear()", Part.ROW);
        changesBehind("feed(59, 1)", "read() 1", Part.TAPE, Part.LAWS);
        changesBehind("set(1, 0)", "run(9)", Part.TAP, Part.ROW);
        changesBehind("60 x tell(5)", "run(400)", Part.TAP, Part.Z);
        changesBehind("clear()", "clear() 0");
    }

    private static void ofTheRest() {
        changes("prove(12)", Part.ROWS);
        changes("prove(3) 3");
        changesBehind("begin(0, 0, 0)", "prove(3) 3", Part.ROWS);
        changes("alterRow(0, 0, 7)", Part.ROWS);
        changes("alterRow(2, 1, -7)", Part.ROWS);
        changes("record() 2", Part.RECORDS);
        changes("sheet(0, -1, 0) 1", Part.SHEETS);
        changes("sheet(0, 2, 3) 1", Part.SHEETS);
        changes("sheet(3, 0, 40) 1", Part.SHEETS);
        changes("sheet(3, -1, 0) 1");
        changes("put(0, 0, 7) 1", Part.SHEETS);
        changes("put(0, 1, 25) 1");
        changes("times(0, 1, 1) 1", Part.ROW);
        changes("times(0, 0, 0) 0");
        changes("times(0, 2, 1) 0");
        changes("times(0, 1, 9) -12", Part.ROW);
        changes("shelf(3, 0, 1) 1", Part.SHELVES);
        changes("shelf(3, 1, 1) 1", Part.SHELVES);
        changes("shelf(3, 2, 1) 1", Part.SHELVES);
        changes("shelf(0, 2, 3) 1", Part.SHELVES);
        changes("shelf(0, 3, 0) 1", Part.SHELVES);
        changes("shelf(3, 3, 0) 1");
        changes("act(1, 3, 5)", Part.TRACE);
        changes("act(1, 0, 5)", Part.TRACE);
        changes("act(2, 0, 5) 0", Part.TRACE);
        changes("act(3, 0, 5) 0", Part.TRACE);
        changes("act(9, 0, 5) 0", Part.TRACE);
        changes("act(0, 9, 5) 0", Part.TRACE);
        changes("act(0, 3, 5)");
        changes("keep() 1", Part.KEPT);
        changesBehind("keep()", "keep() 1");
    }

    private static void asking() {
        String[] calls = {"tap(0)", "tap(3)", "water()", "says(0)", "says(2)", "time(0)", "time(99)", "period()", "kind()", "order()",
            "hits(1, 5)", "hits(9, 9999)", "ahead(1)", "ahead(9)", "rule(5, 0)", "rule(9999, 1)", "drift(2)", "span(0)", "span(1)",
            "span(2)", "grid(0)", "grid(99)", "doubling(30, 50)", "doubling(5, 5)", "windows(30, 50)", "windows(0, 0)", "touch(400)",
            "touch(1)", "lost(0)", "lost(999)", "row(0, 0)", "row(2, 1)", "judge()", "recorded(0, 0)", "recorded(1, 2)", "recorded(1, 4)",
            "alike(0, 1)", "alike(1, 1)", "item(0, 1, 1)", "item(1, 2, 0)", "taken(0, 0)", "taken(1, 7)", "taken(2, 11)", "trace(0)",
            "many(0)", "many(5)"};
        for (String call : calls) {
            changes(call);
        }
        changesBehind("alterRow(1, 0, 9999)", "judge() 2");
        changesBehind("set(0, 5)", "judge() 1");
    }

    /** What again() gives back, and what it leaves. */
    private static void again() {
        changes("again() 1", THAT_IS_KEPT.toArray(new Part[0]));
        List<String> kept = and(AHEAD, "keep()");
        List<String> gone = and(kept, "read()", "laws left 1 ;", "run(17)", "set(0, 2)", "set(1, 3)", "seed(4)", "record()", "clear()",
                "prove(2)", "sheet(1, 3, 4)", "shelf(0, 1, 3)", "shelf(3, 2, 1)", "text flow 8", "act(1, 2, 9)");
        List<String> back = and(gone, "again() 1");
        for (Part part : ALL) {
            boolean isBack = THAT_IS_KEPT.contains(part);
            look(sight(part, back).equals(sight(part, isBack ? kept : gone)), "again()", part);
            look(part == Part.KEPT || !sight(part, gone).equals(sight(part, kept)), "what went ahead of again()", part);
            look(sight(part, and(back, "again() 1")).equals(sight(part, back)), "again() once more", part);
        }
    }

    private static void changes(String call, Part... parts) {
        changesBehind(null, call, parts);
    }

    private static void changesBehind(String ahead, String call, Part... parts) {
        Set<Part> changed = EnumSet.noneOf(Part.class);
        changed.addAll(List.of(parts));
        List<String> without = ahead == null ? AHEAD : and(AHEAD, ahead);
        List<String> with = and(without, call);
        EDGES.edge("what " + call + " changes", with.toArray(new String[0]));
        for (Part part : ALL) {
            boolean isSame = sight(part, with).equals(sight(part, without));
            look(isSame != changed.contains(part), call, part);
        }
    }

    private static List<String> and(List<String> steps, String... more) {
        List<String> all = new ArrayList<>(steps);
        all.addAll(List.of(more));
        return all;
    }

    private static void look(boolean holds, String call, Part part) {
        looked++;
        if (!holds) {
            wrong++;
            System.out.println(call + ": " + part + " isn't as due");
        }
    }

    // ---- what can be seen of a part; the object is spoilt by that

    private static List<Long> sight(Part part, List<String> steps) {
        List<Long> all = new ArrayList<>();
        see(part, Edges.after(steps), all);
        return all;
    }

    private static void see(Part part, UnevenTap t, List<Long> all) {
        switch (part) {
            case TAP -> {
                for (int what = 0; what < 6; what++) {
                    all.add((long) t.tap(what));
                }
                all.add(t.water());
            }
            case KNOB -> all.add((long) t.tap(6));
            case SHAKE -> all.add((long) t.tap(7));
            case Z -> all.add((long) t.seed(0));
            case ROW -> {
                for (int i = 0; i <= t.many(0); i++) {
                    all.add((long) t.time(i));
                }
            }
            case LAWS -> seeLaws(t, all);
            case TAPE -> {
                all.add((long) t.many(3));
                t.feed(59, 1);
                all.add((long) t.read());
                seeLaws(t, all);
            }
            case ROWS -> {
                for (int i = 0; i <= t.many(2); i++) {
                    all.add((long) t.row(i, 0));
                    all.add((long) t.row(i, 1));
                }
            }
            case RECORDS -> seeRecords(t, all);
            case SHEETS -> seeSheets(t, all);
            case SHELVES -> seeShelves(t, all);
            case TRACE -> {
                for (int i = 0; i <= t.many(4); i++) {
                    all.add((long) t.trace(i));
                }
            }
            case KEPT -> {
                all.add((long) t.again());
                for (Part kept : List.of(Part.TAP, Part.KNOB, Part.SHAKE, Part.ROW, Part.RECORDS, Part.Z, Part.LAWS)) {
                    see(kept, t, all);
                }
            }
        }
    }

    /** The same tap for any object, so that nothing but the laws counts. */
    private static void seeLaws(UnevenTap t, List<Long> all) {
        all.add((long) t.many(5));
        t.begin(97, 8, -9);
        t.set(0, 5);
        t.set(1, 0);
        for (int turn = 0; turn < 4; turn++) {
            for (int key = 0; key < 4; key++) {
                all.add((long) t.says(key));
            }
            all.add((long) t.run(7));
        }
    }

    private static void seeRecords(UnevenTap t, List<Long> all) {
        for (int record = 0; record <= t.many(1); record++) {
            int count = t.recorded(record, 1);
            for (int what = 0; what <= count + 3; what++) {
                all.add((long) t.recorded(record, what));
            }
        }
    }

    private static void seeSheets(UnevenTap t, List<Long> all) {
        for (int sheet = 0; sheet < 4; sheet++) {
            for (int sort = 0; sort < 5; sort++) {
                for (int i = 0; i < 41; i++) {
                    all.add((long) t.item(sheet, sort, i));
                }
            }
        }
    }

    private static void seeShelves(UnevenTap t, List<Long> all) {
        for (int shelf = 0; shelf < 4; shelf++) {
            for (int as = 0; as < 15; as++) {
                all.add((long) t.taken(shelf, as));
            }
        }
    }
}
