/** A tap that drips unevenly. What each call answers is told, promise by promise, in ../shared/DOC.md. */
public final class UnevenTap {
    public static final int BAD = -1, FULL = -2, NONE = -3, STATE = -4;

    private static final int NO_SUCH_ROW = -9;
    private static final int NOTHING_THERE = -11, OUTSIDE = -12, OTHER_SORT = -13, BELOW_0 = -14, PARTED_BY_0 = -15;

    private static final int LONGEST_RUN = 400;
    private static final int MOST_KNOB = 99, LONGEST_SPAN = 20;
    private static final int MOST_TIME = 9999;
    private static final int FARTHEST_AHEAD = 9;
    private static final int MOST_TOUCH = 30;
    private static final int MOST_Y = 999;

    private final Tap tap = new Tap();
    private final Laws laws = new Laws();
    private final Records records = new Records();

    private final Tap keptTap = new Tap();
    private final Laws keptLaws = new Laws();
    private final Records keptRecords = new Records();
    private boolean isKept;

    // Made once and used again: a call may run dozens of trials, and all calls share one room.
    private final Tap trial = new Tap();
    private final Tap otherTrial = new Tap();

    private final Text tape = new Text();
    private final Proof proof = new Proof();
    private final Sheets sheets = new Sheets();
    private final Shelves shelves = new Shelves();
    private final Acts acts = new Acts();

    public UnevenTap() {
    }

    // ---- the tap

    public int begin(int weight, int sway, int speed) {
        if (!isWithin(weight, 0, 9999) || !isWithin(sway, -999, 999) || !isWithin(speed, -999, 999)) {
            return BAD;
        }
        tap.beginAnew(weight, sway, speed);
        return 1;
    }

    public int set(int what, int v) {
        if (!isWithin(what, 0, 1) || !isWithin(v, 0, 99)) {
            return BAD;
        }
        int was = what == 0 ? tap.knob : tap.shake;
        if (what == 0) {
            tap.knob = v;
        } else {
            tap.shake = v;
        }
        return was;
    }

    public int seed(int v) {
        int was = tap.z;
        tap.z = v;
        return was;
    }

    public int run(int n) {
        if (!isWithin(n, 0, LONGEST_RUN)) {
            return BAD;
        }
        int before = tap.drops;
        for (int i = 0; i < n; i++) {
            tap.goOneTick(laws);
        }
        return tap.drops - before;
    }

    public int tap(int what) {
        switch (what) {
            case 0:
                return tap.weight;
            case 1:
                return tap.sway + 10000;
            case 2:
                return tap.speed + 10000;
            case 3:
                return tap.ticks;
            case 4:
                return tap.since;
            case 5:
                return tap.drops;
            case 6:
                return tap.knob;
            case 7:
                return tap.shake;
            default:
                return BAD;
        }
    }

    public long water() {
        return tap.flowed - tap.fallen - tap.weight + tap.beganWith;
    }

    // ---- laws

    public int feed(long eight, int n) {
        if (!isWithin(n, 1, 8)) {
            return BAD;
        }
        return tape.takeBytes(eight, n) ? tape.size() : FULL;
    }

    public int read() {
        boolean isRight = tape.tellsLaws();
        int fault = tape.faultPlace();
        tape.useUp();
        if (!isRight) {
            return -100 - fault;
        }
        laws.becomeLike(tape.draft);
        return laws.howManyTold();
    }

    public int says(int key) {
        return laws.worth(key, tap);
    }

    // ---- the row

    public int tell(int time) {
        if (!isWithin(time, 1, MOST_TIME)) {
            return BAD;
        }
        return tap.fallTimes.add(time) ? tap.fallTimes.size() : FULL;
    }

    public int clear() {
        int had = tap.fallTimes.size();
        tap.fallTimes.becomeEmpty();
        return had;
    }

    public int time(int i) {
        return tap.fallTimes.has(i) ? tap.fallTimes.at(i) : NONE;
    }

    public int period() {
        return tap.fallTimes.findPeriod();
    }

    public int kind() {
        return tap.fallTimes.findKind();
    }

    public int order() {
        return tap.fallTimes.findOrder();
    }

    public int hits(int k, int x) {
        if (!isWithin(k, 1, FARTHEST_AHEAD) || !isWithin(x, 0, MOST_TIME)) {
            return BAD;
        }
        return tap.fallTimes.countHits(k, x);
    }

    public int ahead(int k) {
        if (!isWithin(k, 1, FARTHEST_AHEAD)) {
            return BAD;
        }
        int count = tap.fallTimes.size();
        return count < 2 ? NONE : tap.fallTimes.toldAhead(count - 1, k);
    }

    public int rule(int x, int part) {
        if (!isWithin(x, 0, MOST_TIME) || !isWithin(part, 0, 1)) {
            return BAD;
        }
        int all = tap.fallTimes.countTwos(x, false);
        if (all == 0) {
            return NONE;
        }
        int like = tap.fallTimes.countTwos(x, true);
        int measure = commonMeasure(like, all);
        if (measure == 0) {
            return NONE;
        }
        return (part == 0 ? like : all) / measure;
    }

    public int drift(int i) {
        int count = tap.fallTimes.size();
        if (count < 2 || !tap.fallTimes.has(i)) {
            return NONE;
        }
        int first = tap.fallTimes.at(0);
        int rise = tap.fallTimes.at(count - 1) - first;
        return tap.fallTimes.at(i) - first - rise * i / (count - 1) + 20000;
    }

    public int span(int what) {
        if (!isWithin(what, 0, 2)) {
            return BAD;
        }
        if (tap.fallTimes.size() == 0) {
            return NONE;
        }
        switch (what) {
            case 0:
                return tap.fallTimes.least();
            case 1:
                return tap.fallTimes.greatest();
            default:
                return tap.fallTimes.sum();
        }
    }

    // ---- what would be

    public int grid(int knob) {
        return isWithin(knob, 0, MOST_KNOB) ? periodWith(knob) : BAD;
    }

    public int doubling(int from, int to) {
        if (!isSpanOfKnobs(from, to)) {
            return BAD;
        }
        int before = periodWith(from);
        for (int knob = from + 1; knob <= to; knob++) {
            int period = periodWith(knob);
            if (before > 0 && period == 2 * before) {
                return knob;
            }
            before = period;
        }
        return NONE;
    }

    public int windows(int from, int to) {
        if (!isSpanOfKnobs(from, to)) {
            return BAD;
        }
        int count = 0;
        for (int knob = from; knob <= to; knob++) {
            if (periodWith(knob) == 3) {
                count++;
            }
        }
        return count;
    }

    public int touch(int n) {
        if (!isWithin(n, 1, LONGEST_RUN)) {
            return BAD;
        }
        for (int size = 0; size <= MOST_TOUCH; size++) {
            if (isEvenWith(size, n)) {
                return 100 + size;
            }
            if (isEvenWith(-size, n)) {
                return 100 - size;
            }
        }
        return NONE;
    }

    public int lost(int y) {
        if (!isWithin(y, 0, MOST_Y)) {
            return BAD;
        }
        trial.goOnFrom(tap);
        trial.fillRow(LONGEST_RUN, laws);
        otherTrial.goOnFrom(tap);
        otherTrial.addWeight(y);
        otherTrial.fillRow(LONGEST_RUN, laws);
        int place = trial.fallTimes.firstUnlike(otherTrial.fallTimes);
        return place < 0 ? NONE : place;
    }

    private static boolean isSpanOfKnobs(int from, int to) {
        return isWithin(from, 0, MOST_KNOB) && isWithin(to, from, MOST_KNOB) && to - from <= LONGEST_SPAN;
    }

    private int periodWith(int knob) {
        trial.goOnFrom(tap);
        trial.knob = knob;
        trial.fillRow(LONGEST_RUN, laws);
        return trial.fallTimes.findPeriod();
    }

    private boolean isEvenWith(int moreSpeed, int n) {
        trial.goOnFrom(tap);
        trial.speed += moreSpeed;
        trial.fillRow(n, laws);
        return trial.fallTimes.findKind() == Kinds.EVEN;
    }

    // ---- rows

    public int prove(int n) {
        if (!isWithin(n, 1, Proof.MOST)) {
            return BAD;
        }
        proof.becomeEmpty();
        trial.goOnFrom(tap);
        for (int i = 0; i < LONGEST_RUN && proof.size() < n; i++) {
            if (trial.goOneTick(laws)) {
                proof.add(trial.latestTime, trial.latestWeight);
            }
        }
        return proof.size();
    }

    public int row(int i, int what) {
        return proof.has(i, what) ? proof.at(i, what) : NO_SUCH_ROW;
    }

    public int alterRow(int i, int what, int v) {
        if (!proof.has(i, what)) {
            return NO_SUCH_ROW;
        }
        int was = proof.at(i, what);
        proof.alter(i, what, v);
        return was;
    }

    public int judge() {
        int right = 0;
        trial.goOnFrom(tap);
        for (int i = 0; i < LONGEST_RUN && right < proof.size(); i++) {
            if (trial.goOneTick(laws)) {
                if (!proof.tells(right, trial.latestTime, trial.latestWeight)) {
                    return right + 1;
                }
                right++;
            }
        }
        return right < proof.size() ? right + 1 : 0;
    }

    // ---- records

    public int record() {
        return records.add(tap.fallTimes) ? records.size() - 1 : FULL;
    }

    public int recorded(int record, int what) {
        Times times = records.at(record);
        if (times == null) {
            return BAD;
        }
        switch (what) {
            case 0:
                return times.findKind();
            case 1:
                return times.size();
            case 2:
                return times.findPeriod();
            default:
                return what >= 3 && times.has(what - 3) ? times.at(what - 3) : BAD;
        }
    }

    public int alike(int one, int other) {
        Times first = records.at(one);
        Times second = records.at(other);
        return first == null || second == null ? BAD : first.countAlike(second);
    }

    // ---- the host

    public int sheet(int sheet, int sort, int n) {
        if (!sheets.isSheet(sheet) || !isWithin(sort, Sheets.MISSING, Sheets.BOOLEANS)) {
            return BAD;
        }
        if (sort == Sheets.MISSING) {
            sheets.becomeMissing(sheet);
            return 1;
        }
        if (n > Sheets.MOST) {
            return BAD;
        }
        if (n < 0) {
            return BELOW_0;
        }
        sheets.becomeRow(sheet, sort, n);
        return 1;
    }

    public int put(int sheet, int i, int v) {
        if (!sheets.isSheet(sheet)) {
            return BAD;
        }
        if (sheets.sortOf(sheet) == Sheets.MISSING) {
            return NOTHING_THERE;
        }
        if (!sheets.has(sheet, i)) {
            return OUTSIDE;
        }
        sheets.putNarrowed(sheet, i, v);
        return 1;
    }

    public int item(int sheet, int sort, int i) {
        if (!sheets.isSheet(sheet) || !isWithin(sort, Sheets.BYTES, Sheets.BOOLEANS)) {
            return BAD;
        }
        int refusal = refusalOfSort(sheet, sort);
        if (refusal != 0) {
            return refusal;
        }
        return sheets.has(sheet, i) ? sheets.at(sheet, i) : OUTSIDE;
    }

    public int times(int sheet, int i, int n) {
        if (!sheets.isSheet(sheet) || !isWithin(n, 0, Sheets.MOST)) {
            return BAD;
        }
        int refusal = refusalOfSort(sheet, Sheets.SHORTS);
        if (refusal != 0) {
            return refusal;
        }
        int came = 0;
        for (int k = 0; k < n; k++) {
            if (!sheets.has(sheet, i + k)) {
                return OUTSIDE;
            }
            if (tell(sheets.at(sheet, i + k)) > 0) {
                came++;
            }
        }
        return came;
    }

    /** A missing sheet is of no other sort: it goes for any sort, and then nothing is there. */
    private int refusalOfSort(int sheet, int sort) {
        int is = sheets.sortOf(sheet);
        if (is == Sheets.MISSING) {
            return NOTHING_THERE;
        }
        return is == sort ? 0 : OTHER_SORT;
    }

    public int shelf(int shelf, int what, int n) {
        if (!shelves.isShelf(shelf)) {
            return BAD;
        }
        switch (what) {
            case Shelves.RECORD:
                return records.at(n) == null ? BAD : shelves.hold(shelf, what, n, 0);
            case Shelves.LAW:
                return laws.isKey(n) ? shelves.hold(shelf, what, n, 0) : BAD;
            case Shelves.SHEET_ROW:
                return sheets.isSheet(n) ? shelveRow(shelf, n) : BAD;
            case Shelves.NOTHING:
                return shelves.hold(shelf, what, 0, 0);
            default:
                return BAD;
        }
    }

    private int shelveRow(int shelf, int sheet) {
        int sort = sheets.sortOf(sheet);
        if (sort == Sheets.MISSING) {
            return shelves.hold(shelf, Shelves.NOTHING, 0, 0);
        }
        return shelves.hold(shelf, Shelves.SHEET_ROW, sort, sheets.sizeOf(sheet));
    }

    public int taken(int shelf, int as) {
        if (!shelves.isShelf(shelf) || !isWithin(as, Kinds.ROW, Kinds.LAW) && !isWithin(as, 10, 14)) {
            return BAD;
        }
        int number = shelves.numberOn(shelf);
        switch (heldOn(shelf)) {
            case Shelves.RECORD:
            case Shelves.LAW:
                return Kinds.isUnder(kindOn(shelf), as) ? number : OTHER_SORT;
            case Shelves.SHEET_ROW:
                return as - 10 == number ? shelves.itemsOn(shelf) : OTHER_SORT;
            default:
                return NOTHING_THERE;
        }
    }

    /** Records go when what was kept comes again, so a shelf's record is looked up whenever it is asked for. */
    private int heldOn(int shelf) {
        int what = shelves.whatOn(shelf);
        boolean isGone = what == Shelves.RECORD && records.at(shelves.numberOn(shelf)) == null;
        return isGone ? Shelves.NOTHING : what;
    }

    private int kindOn(int shelf) {
        if (shelves.whatOn(shelf) == Shelves.LAW) {
            return Kinds.LAW;
        }
        Times times = records.at(shelves.numberOn(shelf));
        return times == null ? Kinds.NO_KIND : times.findKind();
    }

    public int act(int shelf, int act, int x) {
        acts.forget();
        if (!shelves.isShelf(shelf) || !isWithin(act, Acts.GROWS, Acts.TELLS)) {
            return 0;
        }
        int number = shelves.numberOn(shelf);
        switch (heldOn(shelf)) {
            case Shelves.RECORD:
                Times times = records.at(number);
                acts.takeThing(kindOn(shelf), number, times == null ? 0 : times.size());
                return acts.answer(act, x);
            case Shelves.LAW:
                acts.takeThing(Kinds.LAW, number, laws.worth(number, tap));
                return acts.answer(act, x);
            default:
                return 0;
        }
    }

    public int trace(int i) {
        return acts.has(i) ? acts.bodyAt(i) : NONE;
    }

    public int many(int what) {
        switch (what) {
            case 0:
                return tap.fallTimes.size();
            case 1:
                return records.size();
            case 2:
                return proof.size();
            case 3:
                return tape.size();
            case 4:
                return acts.size();
            case 5:
                return laws.howManyTold();
            default:
                return BAD;
        }
    }

    // ---- kept

    public int keep() {
        keptTap.becomeLike(tap);
        keptLaws.becomeLike(laws);
        keptRecords.becomeLike(records);
        isKept = true;
        return 1;
    }

    public int again() {
        if (!isKept) {
            return NONE;
        }
        tap.becomeLike(keptTap);
        laws.becomeLike(keptLaws);
        records.becomeLike(keptRecords);
        return 1;
    }

    // ---- numbers

    private static boolean isWithin(int v, int least, int most) {
        return v >= least && v <= most;
    }

    private static int heldTo(int v, int least, int most) {
        return Math.max(least, Math.min(most, v));
    }

    /** Of numbers not below 0. By Euclid even the largest ints need fewer than 50 turns. */
    private static int commonMeasure(int one, int other) {
        int a = one;
        int b = other;
        for (int turn = 0; turn < 50 && b != 0; turn++) {
            int rest = a % b;
            a = b;
            b = rest;
        }
        return a;
    }

    /** THE TAP with THE ROW of the times between its drops; a trial is one, too. */
    private static final class Tap {
        static final int MOST_WEIGHT = 99999, MOST_FLOW = 999, MOST_SWAY = 999;

        final Times fallTimes = new Times();
        int weight;
        int sway;
        int speed;
        int ticks;
        int since;
        int drops;
        int knob = 10;
        int shake;
        int z = 1;
        long flowed;
        long fallen;
        int beganWith;
        int latestTime;
        int latestWeight;

        void beginAnew(int newWeight, int newSway, int newSpeed) {
            weight = newWeight;
            sway = newSway;
            speed = newSpeed;
            ticks = 0;
            since = 0;
            drops = 0;
            flowed = 0;
            fallen = 0;
            beganWith = newWeight;
            fallTimes.becomeEmpty();
        }

        void becomeLike(Tap other) {
            goOnFrom(other);
            fallTimes.becomeLike(other.fallTimes);
        }

        void goOnFrom(Tap other) {
            weight = other.weight;
            sway = other.sway;
            speed = other.speed;
            ticks = other.ticks;
            since = other.since;
            drops = other.drops;
            knob = other.knob;
            shake = other.shake;
            z = other.z;
            flowed = other.flowed;
            fallen = other.fallen;
            beganWith = other.beganWith;
            fallTimes.becomeEmpty();
        }

        /** For trials of which only the row counts: once that is full, later ticks can't change it. */
        void fillRow(int n, Laws laws) {
            for (int i = 0; i < n && !fallTimes.isFull(); i++) {
                goOneTick(laws);
            }
        }

        /** Whether a drop went. */
        boolean goOneTick(Laws laws) {
            ticks++;
            since++;
            int flow = heldTo(laws.worth(Laws.FLOW, this), 0, MOST_FLOW);
            flowed += flow;
            addWeight(flow);
            speed -= heldTo(laws.worth(Laws.PULL, this), -MOST_SWAY, MOST_SWAY);
            shakeSpeed();
            speed = heldTo(speed, -MOST_SWAY, MOST_SWAY);
            swayOn();
            if (laws.worth(Laws.GOES, this) == 0) {
                return false;
            }
            letDrop(heldTo(laws.worth(Laws.LEFT, this), 0, weight));
            return true;
        }

        void addWeight(int more) {
            weight = Math.min(MOST_WEIGHT, weight + more);
        }

        private void shakeSpeed() {
            int span = 2 * shake + 1;
            if (shake != 0 && span != 0) {
                z = z * 1103515245 + 12345;
                speed += (z >>> 16) % span - shake;
            }
        }

        private void swayOn() {
            sway += speed;
            if (!isWithin(sway, -MOST_SWAY, MOST_SWAY)) {
                sway = heldTo(sway, -MOST_SWAY, MOST_SWAY);
                speed = 0;
            }
        }

        private void letDrop(int left) {
            latestTime = since;
            latestWeight = weight - left;
            fallen += latestWeight;
            weight = left;
            sway = -(sway / 2);
            speed = -(speed / 2);
            since = 0;
            drops++;
            fallTimes.add(latestTime);
        }

        /** Names are numbered by their places in Text.NAMES. */
        int named(int name) {
            switch (name) {
                case Laws.WEIGHT:
                    return weight;
                case Laws.SWAY:
                    return sway;
                case Laws.SPEED:
                    return speed;
                case Laws.TICK:
                    return ticks;
                case Laws.SINCE:
                    return since;
                case Laws.DROPS:
                    return drops;
                case Laws.KNOB:
                    return knob;
                default:
                    return 0;
            }
        }
    }

    /**
     * Four laws, each a row of cells as one would key them into a reckoner that works on a stack:
     * a number itself, NAME and a name, or SIGN and a sign.
     */
    private static final class Laws {
        static final int FLOW = 0, PULL = 1, GOES = 2, LEFT = 3, KEYS = 4;
        static final int WEIGHT = 0, SWAY = 1, SPEED = 2, TICK = 3, SINCE = 4, DROPS = 5, KNOB = 6;
        static final int NAME = 10000, SIGN = 20000, NEGATE = SIGN + '~';

        private static final int[] FIRST_FLOW = {NAME + KNOB};
        private static final int[] FIRST_PULL = {NAME + SWAY, 4, SIGN + '/'};
        private static final int[] FIRST_GOES = {NAME + WEIGHT, 100, SIGN + '>'};
        private static final int[] FIRST_LEFT = {NAME + WEIGHT, 5, SIGN + '/', NAME + SWAY, SIGN + '+'};

        // A cell takes a byte of the tape at least; and of an E that is open within four others
        // at most three numbers wait for their sign in each.
        private final int[][] cells = new int[KEYS][Text.MOST];
        private final int[] counts = new int[KEYS];
        private final boolean[] areTold = new boolean[KEYS];
        private final int[] stack = new int[32];

        Laws() {
            becomeAsAtFirst();
        }

        boolean isKey(int key) {
            return key >= 0 && key < KEYS;
        }

        int howManyTold() {
            int count = 0;
            for (int key = 0; key < KEYS; key++) {
                if (areTold[key]) {
                    count++;
                }
            }
            return count;
        }

        void becomeAsAtFirst() {
            write(FLOW, FIRST_FLOW);
            write(PULL, FIRST_PULL);
            write(GOES, FIRST_GOES);
            write(LEFT, FIRST_LEFT);
        }

        private void write(int key, int[] first) {
            tellAnew(key);
            for (int i = 0; i < first.length; i++) {
                add(key, first[i]);
            }
            areTold[key] = false;
        }

        void becomeLike(Laws other) {
            for (int key = 0; key < KEYS; key++) {
                counts[key] = other.counts[key];
                areTold[key] = other.areTold[key];
                System.arraycopy(other.cells[key], 0, cells[key], 0, Text.MOST);
            }
        }

        void tellAnew(int key) {
            if (isKey(key)) {
                counts[key] = 0;
                areTold[key] = true;
            }
        }

        void add(int key, int cell) {
            if (isKey(key) && counts[key] < Text.MOST) {
                cells[key][counts[key]] = cell;
                counts[key]++;
            }
        }

        /** What the E of a key is with the tap as it is; 0 for no key. */
        int worth(int key, Tap tap) {
            if (!isKey(key)) {
                return 0;
            }
            int height = 0;
            for (int i = 0; i < counts[key] && i < Text.MOST; i++) {
                int cell = cells[key][i];
                if (cell == NEGATE) {
                    negateTop(height);
                } else if (cell >= SIGN) {
                    height = join(height, cell - SIGN);
                } else {
                    height = push(height, cell < NAME ? cell : tap.named(cell - NAME));
                }
            }
            return height > 0 && height <= stack.length ? stack[height - 1] : 0;
        }

        private int push(int height, int v) {
            if (height < 0 || height >= stack.length) {
                return height;
            }
            stack[height] = v;
            return height + 1;
        }

        private void negateTop(int height) {
            if (height > 0 && height <= stack.length) {
                stack[height - 1] = -stack[height - 1];
            }
        }

        private int join(int height, int sign) {
            if (height < 2 || height > stack.length) {
                return height;
            }
            stack[height - 2] = joined(stack[height - 2], sign, stack[height - 1]);
            return height - 1;
        }

        private static int joined(int left, int sign, int right) {
            switch (sign) {
                case '+':
                    return left + right;
                case '-':
                    return left - right;
                case '*':
                    return left * right;
                case '/':
                    return right == 0 ? 0 : left / right;
                case '%':
                    return right == 0 ? 0 : left % right;
                case '<':
                    return left < right ? 1 : 0;
                case '=':
                    return left == right ? 1 : 0;
                case '>':
                    return left > right ? 1 : 0;
                default:
                    return 0;
            }
        }
    }

    /** THE TAPE, and the reading of its text. Where a reading stops short, the part at hand is the fault. */
    private static final class Text {
        static final int MOST = 200;
        private static final int MOST_LAWS = 8, MOST_OPEN = 4, MOST_DIGITS = 4;
        // A part is one of these, or the sign (or other byte) that it is.
        private static final int END = 256, WORD = 257, NUMBER = 258;
        // The levels of an E: what is compared binds least, a ONE most.
        private static final int COMPARED = 0, SUM = 1, TERM = 2, ONE = 3;
        private static final String KEYS = "flow pull goes left ";
        private static final String NAMES = "weight sway speed tick since drops knob ";

        final Laws draft = new Laws();
        private final int[] bytes = new int[MOST];
        private int count;
        private int key;
        private int part;
        private int from;
        private int to;

        int size() {
            return count;
        }

        boolean takeBytes(long eight, int n) {
            if (n < 0 || n > MOST - count) {
                return false;
            }
            for (int i = 0; i < n; i++) {
                bytes[count + i] = (int) (eight >>> 8 * i) & 255;
            }
            count += n;
            return true;
        }

        void useUp() {
            count = 0;
        }

        int faultPlace() {
            return from;
        }

        /** Whether there is no fault; the draft then has the laws. */
        boolean tellsLaws() {
            draft.becomeAsAtFirst();
            to = 0;
            goToNext();
            for (int i = 0; i < MOST_LAWS && part != END; i++) {
                if (!tellsLaw()) {
                    return false;
                }
            }
            return part == END;
        }

        private boolean tellsLaw() {
            key = placeAmong(KEYS);
            if (key < 0) {
                return false;
            }
            draft.tellAnew(key);
            goToNext();
            if (!tellsJoined(COMPARED, 0) || part != ';') {
                return false;
            }
            goToNext();
            return true;
        }

        // E, SUM and TERM are built alike, of the level below and the signs of their own; so one
        // method serves them all, and comes again within brackets, which open counts.
        private boolean tellsJoined(int level, int open) {
            if (level == ONE) {
                return tellsOne(open);
            }
            if (!tellsJoined(level + 1, open)) {
                return false;
            }
            int most = level == COMPARED ? 1 : MOST;
            for (int i = 0; i < most && levelOf(part) == level; i++) {
                int sign = part;
                goToNext();
                if (!tellsJoined(level + 1, open)) {
                    return false;
                }
                draft.add(key, Laws.SIGN + sign);
            }
            return true;
        }

        private static int levelOf(int sign) {
            switch (sign) {
                case '<':
                case '=':
                case '>':
                    return COMPARED;
                case '+':
                case '-':
                    return SUM;
                case '*':
                case '/':
                case '%':
                    return TERM;
                default:
                    return ONE;
            }
        }

        private boolean tellsOne(int open) {
            switch (part) {
                case NUMBER:
                    return tellsNumber();
                case WORD:
                    return tellsName();
                case '-':
                    return open < MOST_OPEN && tellsLess(open + 1);
                case '(':
                    return open < MOST_OPEN && tellsBracket(open + 1);
                default:
                    return false;
            }
        }

        private boolean tellsNumber() {
            if (to - from > MOST_DIGITS) {
                return false;
            }
            int v = 0;
            for (int i = from; i < to && i < MOST; i++) {
                v = v * 10 + bytes[i] - '0';
            }
            draft.add(key, v);
            goToNext();
            return true;
        }

        private boolean tellsName() {
            int name = placeAmong(NAMES);
            if (name < 0) {
                return false;
            }
            draft.add(key, Laws.NAME + name);
            goToNext();
            return true;
        }

        private boolean tellsLess(int open) {
            goToNext();
            if (!tellsOne(open)) {
                return false;
            }
            draft.add(key, Laws.NEGATE);
            return true;
        }

        private boolean tellsBracket(int open) {
            goToNext();
            if (!tellsJoined(COMPARED, open) || part != ')') {
                return false;
            }
            goToNext();
            return true;
        }

        private void goToNext() {
            from = to;
            while (from < count && from < MOST && bytes[from] == ' ') {
                from++;
            }
            if (from < 0 || from >= count || from >= MOST) {
                part = END;
                to = from;
                return;
            }
            int first = bytes[from];
            to = from + 1;
            if (isLetter(first)) {
                part = WORD;
                while (to < count && to < MOST && isLetter(bytes[to])) {
                    to++;
                }
            } else if (isDigit(first)) {
                part = NUMBER;
                while (to < count && to < MOST && isDigit(bytes[to])) {
                    to++;
                }
            } else {
                part = first;
            }
        }

        private static boolean isLetter(int b) {
            return b >= 'a' && b <= 'z';
        }

        private static boolean isDigit(int b) {
            return b >= '0' && b <= '9';
        }

        /** Which of the words, each with a blank behind it, the part at hand is; below 0 if none. */
        private int placeAmong(String words) {
            if (part != WORD) {
                return -1;
            }
            int place = 0;
            int at = from;
            boolean isLike = true;
            for (int i = 0; i < words.length(); i++) {
                char letter = words.charAt(i);
                if (letter != ' ') {
                    isLike = isLike && at >= 0 && at < to && at < MOST && bytes[at] == letter;
                    at++;
                } else if (isLike && at == to) {
                    return place;
                } else {
                    place++;
                    at = from;
                    isLike = true;
                }
            }
            return -1;
        }
    }

    /** A row of times, and what one tells of it. */
    private static final class Times {
        private static final int MOST = 60;
        private static final int MOST_PERIOD = 8, MOST_ORDER = 4;

        private final int[] values = new int[MOST];
        private int count;

        int size() {
            return count;
        }

        boolean isFull() {
            return count >= MOST;
        }

        boolean has(int i) {
            return i >= 0 && i < count;
        }

        int at(int i) {
            return has(i) && i < MOST ? values[i] : 0;
        }

        boolean add(int v) {
            if (isFull() || count < 0) {
                return false;
            }
            values[count] = v;
            count++;
            return true;
        }

        void becomeEmpty() {
            count = 0;
        }

        void becomeLike(Times other) {
            System.arraycopy(other.values, 0, values, 0, MOST);
            count = other.count;
        }

        int findPeriod() {
            int half = count - count / 2;
            for (int p = 1; p <= MOST_PERIOD && p <= half / 2; p++) {
                if (comesAgainBy(p, count - half)) {
                    return p;
                }
            }
            return 0;
        }

        private boolean comesAgainBy(int p, int start) {
            for (int i = start + p; i < count; i++) {
                if (at(i) != at(i - p)) {
                    return false;
                }
            }
            return true;
        }

        int findKind() {
            if (count == 0) {
                return Kinds.RUNNING;
            }
            switch (findPeriod()) {
                case 1:
                    return Kinds.EVEN;
                case 2:
                    return Kinds.TWOS;
                case 3:
                    return Kinds.WINDOWED;
                case 4:
                    return Kinds.FOURS;
                default:
                    return Kinds.MUDDLED;
            }
        }

        int findOrder() {
            for (int k = 1; k <= MOST_ORDER; k++) {
                if (isOrder(k)) {
                    return k;
                }
            }
            return 0;
        }

        private boolean isOrder(int k) {
            for (int b = 1; b + k < count; b++) {
                for (int a = 0; a < b; a++) {
                    if (at(a + k) != at(b + k) && isSameRun(a, b, k)) {
                        return false;
                    }
                }
            }
            return true;
        }

        private boolean isSameRun(int a, int b, int k) {
            for (int i = 0; i < k; i++) {
                if (at(a + i) != at(b + i)) {
                    return false;
                }
            }
            return true;
        }

        int countHits(int k, int x) {
            int hits = 0;
            for (int i = 1; i + k < count; i++) {
                if (Math.abs(toldAhead(i, k) - at(i + k)) <= x) {
                    hits++;
                }
            }
            return hits;
        }

        int toldAhead(int i, int k) {
            int told = at(i);
            for (int step = 0; step < k; step++) {
                told = at(nearestBefore(i, told) + 1);
            }
            return told;
        }

        /** The latest of the nearest, so that a later one of the same distance takes its place. */
        private int nearestBefore(int i, int v) {
            int nearest = 0;
            for (int j = 1; j < i; j++) {
                if (Math.abs(at(j) - v) <= Math.abs(at(nearest) - v)) {
                    nearest = j;
                }
            }
            return nearest;
        }

        /** Twos of places with like times; only those with like times behind, too, if told so. */
        int countTwos(int x, boolean isLikeBehind) {
            int twos = 0;
            for (int b = 1; b + 1 < count; b++) {
                for (int a = 0; a < b; a++) {
                    if (isApart(a, b, x) && (!isLikeBehind || isApart(a + 1, b + 1, x))) {
                        twos++;
                    }
                }
            }
            return twos;
        }

        private boolean isApart(int a, int b, int most) {
            return Math.abs(at(a) - at(b)) <= most;
        }

        int least() {
            int least = at(0);
            for (int i = 1; i < count; i++) {
                least = Math.min(least, at(i));
            }
            return least;
        }

        int greatest() {
            int greatest = at(0);
            for (int i = 1; i < count; i++) {
                greatest = Math.max(greatest, at(i));
            }
            return greatest;
        }

        int sum() {
            int sum = 0;
            for (int i = 0; i < count; i++) {
                sum += at(i);
            }
            return sum;
        }

        int firstUnlike(Times other) {
            for (int i = 0; i < count || i < other.count; i++) {
                if (!has(i) || !other.has(i) || at(i) != other.at(i)) {
                    return i;
                }
            }
            return -1;
        }

        int countAlike(Times other) {
            int alike = 0;
            for (int i = 0; i < count && i < other.count; i++) {
                if (at(i) == other.at(i)) {
                    alike++;
                }
            }
            return alike;
        }
    }

    /** ROWS: what was proved of drops, 0 the time and 1 the weight of each. */
    private static final class Proof {
        static final int MOST = 12;
        private static final int COLUMNS = 2;

        private final int[][] rows = new int[MOST][COLUMNS];
        private int count;

        int size() {
            return count;
        }

        boolean has(int i, int what) {
            return isWithin(i, 0, count - 1) && i < MOST && isWithin(what, 0, COLUMNS - 1);
        }

        int at(int i, int what) {
            return has(i, what) ? rows[i][what] : 0;
        }

        void alter(int i, int what, int v) {
            if (has(i, what)) {
                rows[i][what] = v;
            }
        }

        void becomeEmpty() {
            count = 0;
        }

        void add(int dropTime, int dropWeight) {
            if (count >= 0 && count < MOST) {
                rows[count][0] = dropTime;
                rows[count][1] = dropWeight;
                count++;
            }
        }

        boolean tells(int i, int dropTime, int dropWeight) {
            return at(i, 0) == dropTime && at(i, 1) == dropWeight;
        }
    }

    private static final class Records {
        private static final int MOST = 6;

        private final Times[] rows = new Times[MOST];
        private int count;

        Records() {
            for (int i = 0; i < MOST; i++) {
                rows[i] = new Times();
            }
        }

        int size() {
            return count;
        }

        /** Null for no such record. */
        Times at(int i) {
            return i >= 0 && i < count && i < MOST ? rows[i] : null;
        }

        boolean add(Times times) {
            if (count < 0 || count >= MOST || rows[count] == null) {
                return false;
            }
            rows[count].becomeLike(times);
            count++;
            return true;
        }

        void becomeLike(Records other) {
            count = 0;
            for (int i = 0; i < other.count && i < MOST; i++) {
                Times times = other.at(i);
                if (times != null) {
                    add(times);
                }
            }
        }
    }

    /** An item of longs is never asked for more than its lowest 32 bits, so an int holds any item. */
    private static final class Sheets {
        static final int MISSING = -1, BYTES = 0, SHORTS = 1, INTS = 2, LONGS = 3, BOOLEANS = 4;
        static final int MOST = 40;
        private static final int COUNT = 4;

        private final int[] sorts = {MISSING, MISSING, MISSING, MISSING};
        private final int[] sizes = new int[COUNT];
        private final int[][] items = new int[COUNT][MOST];

        boolean isSheet(int sheet) {
            return sheet >= 0 && sheet < COUNT;
        }

        boolean has(int sheet, int i) {
            return isSheet(sheet) && isWithin(i, 0, sizes[sheet] - 1) && i < MOST;
        }

        int sortOf(int sheet) {
            return isSheet(sheet) ? sorts[sheet] : MISSING;
        }

        int sizeOf(int sheet) {
            return isSheet(sheet) ? sizes[sheet] : 0;
        }

        void becomeMissing(int sheet) {
            if (isSheet(sheet)) {
                sorts[sheet] = MISSING;
                sizes[sheet] = 0;
            }
        }

        void becomeRow(int sheet, int sort, int n) {
            if (isSheet(sheet)) {
                sorts[sheet] = sort;
                sizes[sheet] = n;
                for (int i = 0; i < MOST; i++) {
                    items[sheet][i] = 0;
                }
            }
        }

        int at(int sheet, int i) {
            return has(sheet, i) ? items[sheet][i] : 0;
        }

        void putNarrowed(int sheet, int i, int v) {
            if (has(sheet, i)) {
                items[sheet][i] = narrowed(sorts[sheet], v);
            }
        }

        private static int narrowed(int sort, int v) {
            switch (sort) {
                case BYTES:
                    return (byte) v;
                case SHORTS:
                    return (short) v;
                case BOOLEANS:
                    return v != 0 ? 1 : 0;
                default:
                    return v;
            }
        }
    }

    /** A sheet's row stays on its shelf when the sheet becomes another; all one asks of it is its sort and size. */
    private static final class Shelves {
        static final int RECORD = 0, LAW = 1, SHEET_ROW = 2, NOTHING = 3;
        private static final int COUNT = 4;

        private final int[] whats = {NOTHING, NOTHING, NOTHING, NOTHING};
        private final int[] numbers = new int[COUNT];
        private final int[] sizes = new int[COUNT];

        boolean isShelf(int shelf) {
            return shelf >= 0 && shelf < COUNT;
        }

        /** Answers 1 so that what is held is at once what the call answers. */
        int hold(int shelf, int what, int number, int size) {
            if (isShelf(shelf)) {
                whats[shelf] = what;
                numbers[shelf] = number;
                sizes[shelf] = size;
            }
            return 1;
        }

        int whatOn(int shelf) {
            return isShelf(shelf) ? whats[shelf] : NOTHING;
        }

        /** Of a sheet's row its sort. */
        int numberOn(int shelf) {
            return isShelf(shelf) ? numbers[shelf] : 0;
        }

        int itemsOn(int shelf) {
            return isShelf(shelf) ? sizes[shelf] : 0;
        }
    }

    private static final class Kinds {
        static final int NO_KIND = -1;
        static final int ROW = 0, EVEN = 1, TWOS = 2, FOURS = 3, WINDOWED = 4, MUDDLED = 5, RUNNING = 6, LAW = 7;
        private static final int[] ABOVE = {NO_KIND, ROW, ROW, TWOS, ROW, ROW, MUDDLED, NO_KIND};

        static int above(int kind) {
            return kind >= 0 && kind < ABOVE.length ? ABOVE[kind] : NO_KIND;
        }

        /** A kind is under itself, too. */
        static boolean isUnder(int kind, int other) {
            int at = kind;
            for (int i = 0; i < ABOVE.length && at != NO_KIND; i++) {
                if (at == other) {
                    return true;
                }
                at = above(at);
            }
            return false;
        }
    }

    /**
     * What a thing does by its kind. A body is sought from a kind upwards: from the thing's own one where
     * the document names an act, from the one above where it says super. Depth counts both.
     */
    private static final class Acts {
        static final int GROWS = 0, SWINGS = 1, PARTS = 2, TELLS = 3;
        private static final int MOST_BODIES = 30, DEEPEST = 20;

        private final int[] bodies = new int[MOST_BODIES];
        private int count;
        private boolean isPartedBy0;
        private int kind = Kinds.NO_KIND;
        private int n;
        private int a;

        int size() {
            return count;
        }

        boolean has(int i) {
            return i >= 0 && i < count;
        }

        int bodyAt(int i) {
            return has(i) && i < MOST_BODIES ? bodies[i] : 0;
        }

        void forget() {
            count = 0;
            isPartedBy0 = false;
        }

        void takeThing(int newKind, int newN, int newA) {
            kind = newKind;
            n = newN;
            a = newA;
        }

        int answer(int act, int x) {
            int answer = byAct(act, x);
            return isPartedBy0 ? PARTED_BY_0 : answer;
        }

        private int byAct(int act, int x) {
            switch (act) {
                case GROWS:
                    return grows(kind, x, 0);
                case SWINGS:
                    return swings(kind, x, 0);
                case PARTS:
                    return parts(kind, x, 0);
                case TELLS:
                    return tells(kind, x, 0);
                default:
                    return 0;
            }
        }

        private void beginBody(int number) {
            if (count >= 0 && count < MOST_BODIES) {
                bodies[count] = number;
                count++;
            }
        }

        private int grows(int as, int x, int depth) {
            if (depth > DEEPEST) {
                return 0;
            }
            switch (as) {
                case Kinds.ROW:
                    beginBody(10);
                    return x + a;
                case Kinds.TWOS:
                    beginBody(30);
                    return grows(Kinds.above(as), x, depth + 1) * 5;
                case Kinds.FOURS:
                    beginBody(40);
                    return grows(Kinds.above(as), x, depth + 1) ^ a;
                case Kinds.RUNNING:
                    beginBody(70);
                    return grows(Kinds.above(as), x, depth + 1) - 6;
                case Kinds.LAW:
                    beginBody(80);
                    return a - x;
                default:
                    return grows(Kinds.above(as), x, depth + 1);
            }
        }

        private int swings(int as, int x, int depth) {
            if (depth > DEEPEST) {
                return 0;
            }
            switch (as) {
                case Kinds.ROW:
                    beginBody(11);
                    return grows(kind, x, depth + 1) * 2;
                case Kinds.EVEN:
                    beginBody(20);
                    return swings(Kinds.above(as), x, depth + 1) - 3;
                case Kinds.WINDOWED:
                    beginBody(50);
                    return 0 - swings(Kinds.above(as), x, depth + 1);
                case Kinds.LAW:
                    beginBody(81);
                    return grows(kind, x, depth + 1) * n;
                default:
                    return swings(Kinds.above(as), x, depth + 1);
            }
        }

        private int parts(int as, int x, int depth) {
            if (depth > DEEPEST) {
                return 0;
            }
            switch (as) {
                case Kinds.ROW:
                    beginBody(12);
                    return partedBy(a - n, x);
                case Kinds.FOURS:
                    beginBody(41);
                    return parts(Kinds.above(as), x + 1, depth + 1);
                case Kinds.MUDDLED:
                    beginBody(61);
                    return parts(Kinds.above(as), x - 1, depth + 1);
                case Kinds.RUNNING:
                    beginBody(71);
                    return parts(Kinds.above(as), x, depth + 1) ^ 1;
                case Kinds.LAW:
                    beginBody(82);
                    return x & a;
                default:
                    return parts(Kinds.above(as), x, depth + 1);
            }
        }

        private int partedBy(int divisor, int x) {
            if (divisor == 0) {
                isPartedBy0 = true;
                return 0;
            }
            return x / divisor;
        }

        private int tells(int as, int x, int depth) {
            if (depth > DEEPEST) {
                return 0;
            }
            switch (as) {
                case Kinds.ROW:
                    beginBody(13);
                    return swings(kind, x, depth + 1) ^ n;
                case Kinds.TWOS:
                    beginBody(31);
                    int told = tells(Kinds.above(as), x, depth + 1);
                    return told + parts(kind, n, depth + 1);
                case Kinds.MUDDLED:
                    beginBody(60);
                    return tells(Kinds.above(as), x, depth + 1) * 2;
                case Kinds.LAW:
                    beginBody(83);
                    int swung = swings(kind, x, depth + 1);
                    return swung - parts(kind, n, depth + 1);
                default:
                    return tells(Kinds.above(as), x, depth + 1);
            }
        }
    }
}
