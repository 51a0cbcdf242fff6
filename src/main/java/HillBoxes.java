import java.util.Arrays;

/** Boxes hidden in the hills: who hid them, who found them, by which rules, and what came of it. */
public final class HillBoxes {
    public static final int BAD = -1, NOT = -2, FULL = -3, BIG = -4, STATE = -5, VOID = -2000000000;

    private static final int NOTHING_THERE = -11, OTHER_KIND = -12, NO_SUCH_PLACE = -13, SIZE_BELOW_0 = -14;

    private static final int PLAIN = 0, BOX = 1, RIDDLE = 2, MANY = 3, WANDERING = 4, NIGHT = 5, THING = 6, FINDER = 7;
    private static final int KINDS = 8;
    private static final int[] KIND_ABOVE = {-1, PLAIN, BOX, BOX, BOX, RIDDLE, PLAIN, PLAIN};

    private static final int CELLS = 60, WIDTH = 10, HEIGHT = 6, OWNERS = 10;
    private static final int HOURS = 24, LAST_DAY = 999, MOST_DAYS = 100;
    private static final int MOST_BODIES = 150, MOST_STEPS = 4, MOST_MOVES = 200, MOST_LOGS = 300;
    private static final int MOST_NAMES = 40, MOST_ASKERS = 8, MOST_TOLD = 12;

    private static final int NEAR = 0, HIDE = 1, COUNTS = 2, DOWN = 3, SHOWN = 4, LEAVE = 10;

    private static final int TRACE_KEPT = 24;
    private static final int SHELVES = 6, LONGEST_ROW = 60;
    private static final int BYTES = 0, SHORTS = 1, INTS = 2, LONGS = 3, BOOLEANS = 4;
    private static final int MOST_OF_NOBODY = 30;

    private final Hills hills;
    private final Rules rules;
    private final Logs logs;
    private final Walks walks;
    private final Shelf[] shelves;
    /** THE TRACE; behind the bodies kept stands how many ran. */
    private final int[] trace;

    public HillBoxes() {
        hills = new Hills();
        rules = new Rules(hills);
        logs = new Logs(hills, rules);
        walks = new Walks();
        shelves = new Shelf[SHELVES];
        for (int i = 0; i < SHELVES; i++) {
            shelves[i] = new Shelf();
        }
        trace = new int[TRACE_KEPT + 1];
    }

    // ---- days, ground, bodies

    public int days(int n) {
        if (n < 1 || n > MOST_DAYS || hills.today + n > LAST_DAY) {
            return BAD;
        }
        hills.today += n;
        return hills.today;
    }

    public int owner(int cell, int owner) {
        if (!isCell(cell) || owner < -1 || owner >= OWNERS) {
            return VOID;
        }
        int was = hills.owners[cell];
        hills.owners[cell] = owner;
        return was;
    }

    public int body(int kind) {
        if (kind != PLAIN && kind != THING) {
            return BAD;
        }
        if (hills.isFull()) {
            return FULL;
        }
        return hills.enter(kind == THING ? new Thing(hills.size) : new Body(hills.size, kind));
    }

    public int finder(int cell) {
        if (!isCell(cell)) {
            return BAD;
        }
        if (hills.isFull()) {
            return FULL;
        }
        return hills.enter(new Finder(hills.size, cell, hills.today));
    }

    public int leaves(int finder) {
        Finder f = hills.finderAt(finder);
        if (f == null) {
            return BAD;
        }
        if (f.hasLeft()) {
            return NOT;
        }
        f.leftOn = hills.today;
        return 1;
    }

    public int step(int cell) {
        if (!isCell(cell)) {
            return BAD;
        }
        if (hills.stepCount >= MOST_STEPS) {
            return FULL;
        }
        hills.steps[hills.stepCount] = cell;
        hills.stepCount++;
        return hills.stepCount;
    }

    public int why(int finder, int kind, int cell, int what) {
        Finder f = hills.finderAt(finder);
        if (f == null || !mayBeAsked(kind, cell) || what < 0 || what > 1) {
            return BAD;
        }
        int why = rules.whyNot(f, kind, cell);
        return what == 0 ? asToldToTheAsker(why) : why;
    }

    public int hide(int finder, int kind, int cell) {
        Finder f = hills.finderAt(finder);
        if (f == null || !mayBeAsked(kind, cell)) {
            return BAD;
        }
        int why = rules.whyNot(f, kind, cell);
        if (why != 0) {
            return -20 - asToldToTheAsker(why);
        }
        if (hills.isFull()) {
            return FULL;
        }
        Box b = new Box(hills.size, kind, f.number, cell, hills.today);
        if (kind == MANY) {
            b.takeSteps(hills.steps, hills.stepCount);
        }
        hills.stepCount = 0;
        return hills.enter(b);
    }

    public int move(int box, int cell, int hour) {
        Box b = hills.boxAt(box);
        if (b == null || b.kind != WANDERING || !isCell(cell) || hour < 0 || hour >= HOURS) {
            return BAD;
        }
        int moment = HOURS * hills.today + hour;
        if (b.isDown() || hills.wasMovedFrom(box, moment) || logs.hasLogFrom(box, moment)) {
            return STATE;
        }
        if (hills.moves >= MOST_MOVES) {
            return FULL;
        }
        hills.moveTo(b, cell, moment);
        return 1;
    }

    public int down(int box) {
        Box b = hills.boxAt(box);
        if (b == null) {
            return BAD;
        }
        if (b.isDown()) {
            return NOT;
        }
        b.downOn = hills.today;
        return 1;
    }

    public int ofBody(int body, int what) {
        Body b = hills.bodyAt(body);
        if (b == null) {
            return VOID;
        }
        if (what == 0) {
            return b.kind;
        }
        if (b instanceof Finder) {
            return ofFinder((Finder) b, what);
        }
        if (b instanceof Box) {
            return ofBox((Box) b, what);
        }
        if (b instanceof Thing) {
            return ofThing((Thing) b, what);
        }
        return VOID;
    }

    public int liesAt(int box, int day, int hour) {
        Box b = hills.boxAt(box);
        if (b == null || !isDay(day) || hour < 0 || hour >= HOURS) {
            return BAD;
        }
        int cell = hills.whereLay(b, HOURS * day + hour);
        return cell < 0 ? NOT : cell;
    }

    // ---- rules

    public int feed(int n, int v) {
        if (n < 1 || n > 4) {
            return BAD;
        }
        if (!rules.tape.hasRoomFor(n)) {
            return FULL;
        }
        for (int i = 0; i < n; i++) {
            rules.tape.append(v >> 8 * i & 255);
        }
        return rules.tape.length;
    }

    public int rule(int use, int day) {
        if (!isUse(use) || !isDay(day)) {
            return BAD;
        }
        if (rules.isFull()) {
            return FULL;
        }
        return rules.make(use, day);
    }

    public int inForce(int use, int d, int k) {
        if (!isUse(use) || !isDay(d) || !isDay(k)) {
            return BAD;
        }
        int rule = rules.ruleFor(use, d, k);
        return rule < 0 ? NOT : rule;
    }

    public int says(int use, int finder, int box, int what) {
        if (what < 0 || what > 1 || !canSay(use, finder, box)) {
            return VOID;
        }
        if (use == HIDE) {
            rules.askForKind(hills.today, hills.finderAt(finder), box, -1);
        } else {
            rules.askForBox(hills.today, hills.finderAt(finder), hills.boxAt(box), 0);
        }
        int gives = rules.answer(use, hills.today);
        return what == 0 ? gives : rules.line;
    }

    public int nearest(int finder, int cell) {
        Finder f = hills.finderAt(finder);
        if (f == null || !isCell(cell)) {
            return BAD;
        }
        int least = NOT;
        for (int i = 0; i < hills.size; i++) {
            Box b = hills.boxAt(i);
            if (b != null && !b.isDown() && rules.shows(f, b)) {
                int away = far(cell, b.cell);
                least = least < 0 || away < least ? away : least;
            }
        }
        return least;
    }

    // ---- riddles

    public int riddle(int box, int shelf, int i, int n) {
        Riddle r = riddleOf(box);
        Shelf s = shelfAt(shelf);
        if (r == null || s == null || n < 1 || n > Riddle.MOST_TELLINGS) {
            return BAD;
        }
        if (!s.isEmpty() && !s.isRowOf(BYTES)) {
            return OTHER_KIND;
        }
        return r.takeTellings(s, i, n);
    }

    public int solve(int box, int i) {
        Riddle r = riddleOf(box);
        if (r == null || i < -1) {
            return BAD;
        }
        if (!r.tellsCell()) {
            return NOT;
        }
        if (i == -1) {
            return r.countSolutions();
        }
        return r.findSolution(i) ? r.solution : BAD;
    }

    public int solved(int box, int i) {
        Riddle r = riddleOf(box);
        if (r == null || i < 0) {
            return BAD;
        }
        if (!r.tellsCell()) {
            return NOT;
        }
        return r.findSolution(i) ? r.solutionCell : BAD;
    }

    public long others(int box, int finder) {
        Riddle r = riddleOf(box);
        Box b = hills.boxAt(box);
        if (r == null || b == null || hills.finderAt(finder) == null) {
            return Long.MIN_VALUE;
        }
        if (b.keeper != finder || !r.tellsCell()) {
            return Long.MAX_VALUE;
        }
        r.countSolutions();
        return r.cells & ~(1L << b.cell);
    }

    // ---- logs, paper

    public int log(int finder, int box, int at, int found) {
        if (hills.finderAt(finder) == null || hills.boxAt(box) == null) {
            return BAD;
        }
        if (at < 0 || at >= HOURS * (hills.today + 1) || found < 0 || found > 1) {
            return BAD;
        }
        if (logs.size >= MOST_LOGS) {
            return FULL;
        }
        return logs.enter(finder, box, at, found == 1);
    }

    public int paper(int box, int shelf, int i, int n) {
        Box b = hills.boxAt(box);
        Shelf s = shelfAt(shelf);
        if (b == null || s == null || n < 1 || n > MOST_NAMES) {
            return BAD;
        }
        if (!s.isEmpty() && !s.isRowOf(SHORTS)) {
            return OTHER_KIND;
        }
        b.nameCount = 0;
        b.paperSeen = true;
        for (int k = 0; k < n; k++) {
            int name = (int) s.elementOr((long) i + k, -1);
            if (hills.finderAt(name) == null) {
                break;
            }
            b.names[b.nameCount] = name;
            b.nameCount++;
        }
        return b.nameCount;
    }

    public int join(int box, int what, int i) {
        Box b = hills.boxAt(box);
        if (b == null || what < 0 || what > 2) {
            return BAD;
        }
        int met = 0;
        for (int f = 0; f < hills.size; f++) {
            if (hills.finderAt(f) != null && logs.joinOf(f, b) == what) {
                if (met == i) {
                    return f;
                }
                met++;
            }
        }
        return i == -1 ? met : BAD;
    }

    public int first(int box) {
        Box b = hills.boxAt(box);
        if (b == null) {
            return BAD;
        }
        if (b.nameCount > 0) {
            return b.names[0];
        }
        int log = logs.firstThatCounts(box);
        return log < 0 ? NOT : logs.finder[log];
    }

    public int isFalse(int log, int what) {
        if (!logs.has(log) || what < 0 || what > 1) {
            return BAD;
        }
        int why = logs.whyFalse(log);
        if (what == 0) {
            return why;
        }
        return why == Logs.TOO_SOON ? logs.tooSoonBy(log) : -1;
    }

    public int gone(int box, int what) {
        Box b = hills.boxAt(box);
        if (b == null || what < 0 || what > 2) {
            return BAD;
        }
        int how = b.misses >= 3 ? 2 : b.misses > 0 ? 1 : 0;
        if (what == 0) {
            return how;
        }
        if (how != 2) {
            return NOT;
        }
        return what == 1 ? logs.goneFrom(b) : logs.goneTo(b);
    }

    public int chance(int what) {
        if (what < 0 || what > 1) {
            return BAD;
        }
        return logs.chanceOf(what == 1);
    }

    // ---- things, keepers

    public int tell(int thing, int log, int left) {
        Thing t = hills.thingAt(thing);
        if (t == null || !logs.has(log) || left < 0 || left > 1 || !logs.found[log]) {
            return BAD;
        }
        if (t.told >= MOST_TOLD) {
            return FULL;
        }
        t.logs[t.told] = log;
        t.left[t.told] = left == 1;
        t.told++;
        return t.told;
    }

    public int jump(int thing, int i) {
        Thing t = hills.thingAt(thing);
        if (t == null) {
            return BAD;
        }
        int met = 0;
        for (int k = 0; k < t.told; k++) {
            if (logs.isJump(t, k)) {
                if (met == i) {
                    return k;
                }
                met++;
            }
        }
        return i == -1 ? met : BAD;
    }

    public int chain(int thing) {
        Thing t = hills.thingAt(thing);
        return t == null ? BAD : logs.chainOf(t);
    }

    public int asks(int finder, int box) {
        Finder f = hills.finderAt(finder);
        Box b = hills.boxAt(box);
        if (f == null || b == null || f.hasLeft() || b.isAskedBy(finder)) {
            return BAD;
        }
        Finder keeper = hills.finderAt(b.keeper);
        if (keeper == null || !keeper.hasLeft()) {
            return NOT;
        }
        if (b.askerCount >= MOST_ASKERS) {
            return FULL;
        }
        b.askers[b.askerCount] = finder;
        b.askerCount++;
        return b.askerCount;
    }

    public int taker(int box) {
        Box b = hills.boxAt(box);
        return b == null ? BAD : takerOf(b);
    }

    public int take(int box) {
        Box b = hills.boxAt(box);
        if (b == null) {
            return BAD;
        }
        int taker = takerOf(b);
        if (taker >= 0) {
            b.keeper = taker;
            b.askerCount = 0;
        }
        return taker;
    }

    public int toPut(int i) {
        int met = 0;
        for (int k = 0; k < hills.size; k++) {
            if (isToPut(hills.boxAt(k))) {
                if (met == i) {
                    return k;
                }
                met++;
            }
        }
        return i == -1 ? met : BAD;
    }

    public int putAll() {
        int met = 0;
        for (int k = 0; k < hills.size; k++) {
            Box b = hills.boxAt(k);
            if (b != null && isToPut(b)) {
                b.downOn = hills.today;
                met++;
            }
        }
        return met;
    }

    // ---- walks, ranks

    public int wish(int box, int worth, int hours) {
        Box b = hills.boxAt(box);
        if (b == null || b.isDown() || walks.isWished(box) || worth < 1 || worth > 99 || hours < 0 || hours > 9) {
            return BAD;
        }
        if (walks.wishes >= Walks.MOST_WISHES) {
            return FULL;
        }
        return walks.wishFor(b, worth, hours);
    }

    public int walk(int at, int hours) {
        if (!Walks.isSetOut(at, hours)) {
            return BAD;
        }
        return walks.findBest(at, hours) ? walks.takeBest() : NOT;
    }

    public int walked(int what) {
        if (what < -1 || walks.walkedHours < 0 || what >= walks.walkedCount) {
            return BAD;
        }
        return what == -1 ? walks.walkedHours : walks.walked[what];
    }

    public int judge(int at, int hours, int row) {
        if (!Walks.isSetOut(at, hours) || !walks.readRow(row)) {
            return BAD;
        }
        int all = walks.hoursOfRow(at);
        return all > hours ? NOT : all;
    }

    public int lookAt(int box, int gone) {
        Box b = hills.boxAt(box);
        if (b == null || gone < 0 || gone > 1) {
            return BAD;
        }
        if (b.finds > 0 || b.isDown() || b.isLookedAt()) {
            return NOT;
        }
        b.lookedAt = gone;
        int were = 0;
        for (int i = 0; i < hills.size; i++) {
            Box other = hills.boxAt(i);
            if (other != null && other.isLookedAt()) {
                were++;
            }
        }
        return were;
    }

    public int nobody(int what) {
        if (what < 0 || what > 3) {
            return BAD;
        }
        int n = 0, c = 0, w = 0;
        for (int i = 0; i < hills.size; i++) {
            Box b = hills.boxAt(i);
            if (b != null && !b.isDown() && b.finds == 0) {
                n++;
                c += b.isLookedAt() ? 1 : 0;
                w += b.lookedAt == 1 ? 1 : 0;
            }
        }
        switch (what) {
            case 0: return n;
            case 1: return c;
            case 2: return w;
            default: return n > MOST_OF_NOBODY ? BIG : boundOf(n, c, w);
        }
    }

    public int rank(int finder, int d, int rule, int what) {
        if (hills.finderAt(finder) == null || !isDay(d) || what < 0 || what > 1) {
            return BAD;
        }
        if (rule != -1 && !rules.isOf(rule, COUNTS)) {
            return BAD;
        }
        logs.tallyFinds(d, rule);
        return what == 0 ? logs.tally[finder] : logs.placeOf(finder);
    }

    // ---- acts, shelves

    public int act(int body, int act, int x) {
        trace[TRACE_KEPT] = 0;
        Body b = hills.bodyAt(body);
        if (b == null || act < 0 || act >= Body.ACTS) {
            return 0;
        }
        return b.perform(act, x, trace);
    }

    public int trace(int i) {
        if (i < 0 || i >= TRACE_KEPT || i >= trace[TRACE_KEPT]) {
            return BAD;
        }
        return trace[i];
    }

    public int keep(int shelf, int body) {
        Shelf s = shelfAt(shelf);
        Body b = hills.bodyAt(body);
        if (s == null || b == null && body != -1) {
            return BAD;
        }
        s.hold(b);
        return 1;
    }

    public int row(int shelf, int sort, int n) {
        Shelf s = shelfAt(shelf);
        if (s == null || sort < BYTES || sort > BOOLEANS || n > LONGEST_ROW) {
            return BAD;
        }
        if (n < 0) {
            return SIZE_BELOW_0;
        }
        s.holdRow(sort, n);
        return 1;
    }

    public int put(int shelf, int i, long v) {
        Shelf s = shelfAt(shelf);
        if (s == null) {
            return BAD;
        }
        int refusal = s.refusalOf(i);
        if (refusal != 0) {
            return refusal;
        }
        s.setElement(i, v);
        return 1;
    }

    public long element(int shelf, int i) {
        Shelf s = shelfAt(shelf);
        return s == null ? Long.MIN_VALUE : s.elementOr(i, Long.MIN_VALUE);
    }

    public int shift(int shelf, int i, int other, int j, int n) {
        Shelf from = shelfAt(shelf);
        Shelf to = shelfAt(other);
        if (from == null || to == null) {
            return BAD;
        }
        if (from.isEmpty() || to.isEmpty()) {
            return NOTHING_THERE;
        }
        if (!from.isRow || !to.isRow || from.sort != to.sort) {
            return OTHER_KIND;
        }
        if (!from.hasPlaces(i, n) || !to.hasPlaces(j, n)) {
            return NO_SUCH_PLACE;
        }
        System.arraycopy(from.elements, i, to.elements, j, n);
        return n;
    }

    public int taken(int shelf, int k) {
        Shelf s = shelfAt(shelf);
        if (s == null || k < 0 || k >= KINDS) {
            return BAD;
        }
        if (s.isEmpty()) {
            return NOTHING_THERE;
        }
        Body b = s.body;
        return b == null || !b.isUnder(k) ? OTHER_KIND : b.kind;
    }

    public int count(int what) {
        switch (what) {
            case 0: return hills.size;
            case 1: return countBoxes(false);
            case 2: return countBoxes(true);
            case 3: return countFinders(false);
            case 4: return countFinders(true);
            case 5: return logs.size;
            case 6: return rules.made;
            case 7: return rules.tape.length;
            case 8: return hills.today;
            case 9: return hills.stepCount;
            case 10: return trace[TRACE_KEPT];
            default: return BAD;
        }
    }

    // ---- what the face asks of itself

    private static boolean isCell(int cell) {
        return cell >= 0 && cell < CELLS;
    }

    private static boolean isDay(int day) {
        return day >= 0 && day <= LAST_DAY;
    }

    private static boolean isUse(int use) {
        return use >= NEAR && use <= SHOWN || use >= LEAVE && use < LEAVE + OWNERS;
    }

    private static boolean isKindOfBox(int kind) {
        return kind >= BOX && kind <= NIGHT;
    }

    private static int far(int a, int b) {
        return Math.abs(a % WIDTH - b % WIDTH) + Math.abs(a / WIDTH - b / WIDTH);
    }

    /** The HOURS that a way takes, and the least that two finds must lie apart. */
    private static int hoursBetween(int a, int b) {
        return (far(a, b) + 1) / 2;
    }

    private static boolean isNightHour(int hour) {
        return hour >= 20 || hour < 6;
    }

    private boolean mayBeAsked(int kind, int cell) {
        return isKindOfBox(kind) && isCell(cell) && (kind != MANY || hills.stepCount > 0);
    }

    /** A secret STEP must not be told by a no: it sounds like a BOX that all may know. */
    private static int asToldToTheAsker(int why) {
        return why == Rules.NEAR_A_SECRET ? Rules.TOO_NEAR : why;
    }

    private boolean canSay(int use, int finder, int box) {
        boolean noFinder = finder == -1;
        boolean isFinder = hills.finderAt(finder) != null;
        boolean isBox = hills.boxAt(box) != null;
        switch (use) {
            case NEAR: return noFinder && box == -1;
            case HIDE: return isFinder && isKindOfBox(box);
            case DOWN: return noFinder && isBox;
            case SHOWN: return isFinder && isBox;
            default: return false;
        }
    }

    private int ofFinder(Finder f, int what) {
        switch (what) {
            case 1: return f.home;
            case 2: return f.since;
            case 3: return f.leftOn;
            case 4: return hills.ownOf(f.number);
            default: return VOID;
        }
    }

    private static int ofBox(Box b, int what) {
        switch (what) {
            case 1: return b.keeper;
            case 2: return b.cell;
            case 3: return b.hiddenOn;
            case 4: return b.downOn;
            case 5: return b.liesNow();
            case 6: return b.finds;
            case 7: return b.misses;
            default: return VOID;
        }
    }

    private int ofThing(Thing t, int what) {
        switch (what) {
            case 1: return logs.whereAfter(t, t.told - 1);
            case 2: return t.told;
            default: return VOID;
        }
    }

    private Riddle riddleOf(int box) {
        Box b = hills.boxAt(box);
        return b == null ? null : b.riddle;
    }

    private Shelf shelfAt(int shelf) {
        return shelf < 0 || shelf >= SHELVES ? null : shelves[shelf];
    }

    private boolean isToPut(Box b) {
        return b != null && !b.isDown() && rules.putsDown(b);
    }

    private int takerOf(Box b) {
        int taker = NOT, least = 0;
        for (int i = 0; i < b.askerCount; i++) {
            Finder f = hills.finderAt(b.askers[i]);
            if (f != null && !f.hasLeft() && rules.letsHide(f, b.kind, b.liesNow())) {
                int away = far(f.home, b.liesNow());
                if (taker < 0 || away < least || away == least && f.number < taker) {
                    taker = f.number;
                    least = away;
                }
            }
        }
        return taker;
    }

    private int countBoxes(boolean lyingAlone) {
        int met = 0;
        for (int i = 0; i < hills.size; i++) {
            Box b = hills.boxAt(i);
            if (b != null && !(lyingAlone && b.isDown())) {
                met++;
            }
        }
        return met;
    }

    private int countFinders(boolean thereAlone) {
        int met = 0;
        for (int i = 0; i < hills.size; i++) {
            Finder f = hills.finderAt(i);
            if (f != null && !(thereAlone && f.hasLeft())) {
                met++;
            }
        }
        return met;
    }

    /** The most of n that may be gone, when w of c looked at are: with a chance of 5 of 100 at least. */
    private static int boundOf(int n, int c, int w) {
        for (int most = n - c + w; most > w; most--) {
            if (20 * waysOfAtMost(w, n, c, most) >= ways(n, c)) {
                return most;
            }
        }
        return w;
    }

    private static long waysOfAtMost(int w, int n, int c, int gone) {
        long all = 0;
        for (int j = 0; j <= w; j++) {
            all += ways(gone, j) * ways(n - gone, c - j);
        }
        return all;
    }

    private static long ways(int n, int k) {
        if (k < 0 || k > n) {
            return 0;
        }
        long all = 1;
        for (int i = 1; i <= k; i++) {
            all = all * (n - k + i) / i;
        }
        return all;
    }

    /** A BODY of any KIND, and what the ACTS do with it. */
    private static class Body {
        static final int ACTS = 4;

        private static final int HIDES = 0, TELLS = 1, FINDS = 2, ENDS = 3;
        private static final int DEEPEST = 40;

        /** By KIND and ACT the body that the KIND has itself; those of the interfaces stand with BODY. */
        private static final int[] BODIES_OF_ACTS = {
            1, 10, 11, 2,
            20, 0, 0, 0,
            0, 30, 0, 0,
            0, 0, 40, 0,
            50, 0, 0, 51,
            0, 61, 60, 0,
            0, 0, 0, 70,
            0, 80, 0, 0
        };

        final int number;
        final int kind;

        Body(int number, int kind) {
            this.number = number;
            this.kind = kind;
        }

        int cellNow() {
            return 0;
        }

        boolean isUnder(int wanted) {
            int at = kind;
            for (int i = 0; i < KINDS && at >= 0 && at < KINDS; i++) {
                if (at == wanted) {
                    return true;
                }
                at = KIND_ABOVE[at];
            }
            return false;
        }

        int perform(int act, int x, int[] trace) {
            return run(kind, act, x, trace, 0);
        }

        /** Runs the body that the KIND 'from' has of an ACT, or that of the next KIND above that has one. */
        private int run(int from, int act, int x, int[] trace, int depth) {
            int at = from;
            for (int i = 0; i < KINDS && at > PLAIN && BODIES_OF_ACTS[ACTS * at + act] == 0; i++) {
                at = KIND_ABOVE[at];
            }
            if (at < PLAIN || depth > DEEPEST) {
                return 0;
            }
            int body = BODIES_OF_ACTS[ACTS * at + act];
            if (trace[TRACE_KEPT] < TRACE_KEPT) {
                trace[trace[TRACE_KEPT]] = body;
            }
            trace[TRACE_KEPT]++;
            return runBody(body, KIND_ABOVE[at], x, trace, depth + 1);
        }

        private int runBody(int body, int above, int x, int[] trace, int depth) {
            switch (body) {
                case 1: return x + number;
                case 2: return run(kind, TELLS, x, trace, depth) - run(kind, FINDS, 1, trace, depth);
                case 10: return run(kind, HIDES, x, trace, depth) * 2;
                case 11: return x ^ number;
                case 20: return run(above, HIDES, x, trace, depth) - cellNow();
                case 30: return run(above, TELLS, x, trace, depth) + run(kind, FINDS, 2, trace, depth);
                case 40: return run(above, FINDS, x, trace, depth) * 3;
                case 50: return run(above, HIDES, x, trace, depth) ^ 5;
                case 51: return run(above, ENDS, x + 1, trace, depth);
                case 60: return -run(above, FINDS, x, trace, depth);
                case 61: return run(above, TELLS, x, trace, depth) - 1;
                case 70: return run(above, ENDS, x, trace, depth) * 2;
                case 80: return run(above, TELLS, x, trace, depth) + run(above, FINDS, x, trace, depth);
                default: return 0;
            }
        }
    }

    private static final class Finder extends Body {
        final int home;
        final int since;
        int leftOn = -1;

        Finder(int number, int home, int since) {
            super(number, FINDER);
            this.home = home;
            this.since = since;
        }

        boolean hasLeft() {
            return leftOn >= 0;
        }
    }

    /** Its tellings: the LOG of each, and whether it was LEFT there (TAKEN else). */
    private static final class Thing extends Body {
        final int[] logs = new int[MOST_TOLD];
        final boolean[] left = new boolean[MOST_TOLD];
        int told;

        Thing(int number) {
            super(number, THING);
        }
    }

    /** One that is hidden; where it lay ahead of its first MOVE stays known, and what its LOGS say is kept counted. */
    private static final class Box extends Body {
        final int hiddenOn;
        final int hiddenAtCell;
        final int[] steps = new int[MOST_STEPS];
        final int[] names = new int[MOST_NAMES];
        final int[] askers = new int[MOST_ASKERS];
        final Riddle riddle;
        int keeper;
        int cell;
        int stepCount;
        int downOn = -1;
        int finds;
        int misses;
        int latestFound = -1;
        int nameCount;
        boolean paperSeen;
        int askerCount;
        int lookedAt = -1;

        Box(int number, int kind, int keeper, int cell, int hiddenOn) {
            super(number, kind);
            this.keeper = keeper;
            this.cell = cell;
            this.hiddenAtCell = cell;
            this.hiddenOn = hiddenOn;
            this.riddle = kind == RIDDLE || kind == NIGHT ? new Riddle() : null;
        }

        void takeSteps(int[] told, int n) {
            for (int i = 0; i < n && i < MOST_STEPS && i < told.length; i++) {
                steps[i] = told[i];
                stepCount = i + 1;
            }
        }

        int cellNow() {
            return cell;
        }

        /** Of one that is PUT DOWN: where it lay at last. */
        int liesNow() {
            return stepCount > 0 ? steps[stepCount - 1] : cell;
        }

        boolean isDown() {
            return downOn >= 0;
        }

        boolean isLookedAt() {
            return lookedAt >= 0;
        }

        boolean isAskedBy(int finder) {
            for (int i = 0; i < askerCount; i++) {
                if (askers[i] == finder) {
                    return true;
                }
            }
            return false;
        }

        boolean isOnPaper(int finder) {
            for (int i = 0; i < nameCount; i++) {
                if (names[i] == finder) {
                    return true;
                }
            }
            return false;
        }
    }

    /** TODAY, the CELLS' OWNERS, all BODIES, the STEPS told for the next MANY, and all MOVES. */
    private static final class Hills {
        int today;
        final int[] owners = new int[CELLS];
        final Body[] bodies = new Body[MOST_BODIES];
        int size;
        final int[] steps = new int[MOST_STEPS];
        int stepCount;
        final int[] movedBox = new int[MOST_MOVES];
        final int[] movedAt = new int[MOST_MOVES];
        final int[] movedTo = new int[MOST_MOVES];
        int moves;

        Hills() {
            Arrays.fill(owners, -1);
        }

        boolean isFull() {
            return size >= MOST_BODIES;
        }

        int enter(Body b) {
            bodies[size] = b;
            size++;
            return b.number;
        }

        Body bodyAt(int n) {
            return n < 0 || n >= size ? null : bodies[n];
        }

        Finder finderAt(int n) {
            Body b = n < 0 || n >= size ? null : bodies[n];
            return b instanceof Finder ? (Finder) b : null;
        }

        Box boxAt(int n) {
            Body b = n < 0 || n >= size ? null : bodies[n];
            return b instanceof Box ? (Box) b : null;
        }

        Thing thingAt(int n) {
            Body b = n < 0 || n >= size ? null : bodies[n];
            return b instanceof Thing ? (Thing) b : null;
        }

        /** How many BOXES a FINDER keeps that are not PUT DOWN. */
        int ownOf(int finder) {
            int own = 0;
            for (int i = 0; i < size; i++) {
                Box b = boxAt(i);
                if (b != null && b.keeper == finder && b.downOn < 0) {
                    own++;
                }
            }
            return own;
        }

        void moveTo(Box b, int cell, int moment) {
            movedBox[moves] = b.number;
            movedAt[moves] = moment;
            movedTo[moves] = cell;
            moves++;
            b.cell = cell;
        }

        boolean wasMovedFrom(int box, int moment) {
            for (int i = 0; i < moves; i++) {
                if (movedBox[i] == box && movedAt[i] >= moment) {
                    return true;
                }
            }
            return false;
        }

        /** LIES AT of a BOX at a MOMENT; -1: nowhere. */
        int whereLay(Box b, int moment) {
            if (b == null || moment < HOURS * b.hiddenOn || b.isDown() && moment >= HOURS * b.downOn) {
                return -1;
            }
            if (b.kind != WANDERING) {
                return b.liesNow();
            }
            // MOVES of one BOX stand in the order of their MOMENTS, so the last one that was by then holds
            for (int i = moves - 1; i >= 0; i--) {
                if (movedBox[i] == b.number && movedAt[i] <= moment) {
                    return movedTo[i];
                }
            }
            return b.hiddenAtCell;
        }
    }

    /** RULES and LEAVES, what they are asked, and what they say. */
    private static final class Rules {
        static final int REFUSED = 1, NO_LEAVE = 2, TOO_NEAR = 3, NEAR_A_SECRET = 4;

        private static final int MOST_RULES = 20, WIDEST_NEAR = 15;
        private static final int[] UNRULED = {2, 1, 1, 0, 1};
        private static final int DEEPEST_STACK = 64;

        final Tape tape = new Tape();
        int made;
        /** The LINE that gave the latest answer; -1: none. */
        int line = -1;

        private final Hills hills;
        private final int[] uses = new int[MOST_RULES];
        private final int[] madeOn = new int[MOST_RULES];
        private final int[] daysFrom = new int[MOST_RULES];
        private final int[] codes = new int[MOST_RULES * Tape.LONGEST_CODE];
        private final int[] codeLengths = new int[MOST_RULES];
        private final int[] stack = new int[DEEPEST_STACK];

        /** What is asked: the NAMES get their numbers from these. */
        private int askedDay;
        private Finder askedFinder;
        private Box askedBox;
        private int askedKind;
        private int askedCell;
        private int askedHour;

        Rules(Hills hills) {
            this.hills = hills;
        }

        boolean isFull() {
            return made >= MOST_RULES;
        }

        boolean isOf(int rule, int use) {
            return rule >= 0 && rule < made && uses[rule] == use;
        }

        int make(int use, int day) {
            int fault = tape.compile();
            tape.length = 0;
            if (fault >= 0) {
                return -100 - fault;
            }
            uses[made] = use;
            madeOn[made] = hills.today;
            daysFrom[made] = day;
            codeLengths[made] = tape.copyCode(codes, made * Tape.LONGEST_CODE);
            made++;
            return made - 1;
        }

        /** The RULE of a USE in force on DAY d AS KNOWN on k; -1: none. */
        int ruleFor(int use, int d, int k) {
            for (int i = made - 1; i >= 0; i--) {
                if (uses[i] == use && madeOn[i] <= k && daysFrom[i] <= d) {
                    return i;
                }
            }
            return -1;
        }

        /** What is asked of a FINDER and a BOX, either of which may be none. */
        void askForBox(int day, Finder finder, Box box, int hour) {
            askedDay = day;
            askedFinder = finder;
            askedBox = box;
            askedKind = box == null ? 0 : box.kind;
            askedCell = box == null ? -1 : box.cell;
            askedHour = hour;
        }

        /** What is asked of a FINDER for a KIND that is not hidden yet, at a CELL (-1: none). */
        void askForKind(int day, Finder finder, int kind, int cell) {
            askedDay = day;
            askedFinder = finder;
            askedBox = null;
            askedKind = kind;
            askedCell = cell;
            askedHour = 0;
        }

        /** What a USE gives on a DAY, AS KNOWN TODAY, for what is asked. */
        int answer(int use, int day) {
            int rule = ruleFor(use, day, hills.today);
            if (rule < 0) {
                line = -1;
                return use >= 0 && use < UNRULED.length ? UNRULED[use] : 0;
            }
            int gives = work(rule);
            return use == NEAR ? Math.max(0, Math.min(WIDEST_NEAR, gives)) : gives;
        }

        boolean letsHide(Finder f, int kind, int cell) {
            askForKind(hills.today, f, kind, cell);
            return answer(HIDE, hills.today) != 0;
        }

        boolean shows(Finder f, Box b) {
            askForBox(hills.today, f, b, 0);
            return answer(SHOWN, hills.today) != 0;
        }

        boolean putsDown(Box b) {
            askForBox(hills.today, null, b, 0);
            return answer(DOWN, hills.today) != 0;
        }

        /** Whether a LOG COUNTS, by those in force on its DAY, or by a RULE beside (-1: none). */
        boolean counts(int finder, int box, int moment, int beside) {
            int day = moment / HOURS;
            askForBox(day, hills.finderAt(finder), hills.boxAt(box), moment % HOURS);
            return (beside < 0 ? answer(COUNTS, day) : work(beside)) != 0;
        }

        /** WHY not, as the desk knows it; 0: it may. */
        int whyNot(Finder f, int kind, int cell) {
            if (f.hasLeft() || !letsHide(f, kind, cell)) {
                return REFUSED;
            }
            if (!leavesLet(f, kind, cell)) {
                return NO_LEAVE;
            }
            askForBox(hills.today, null, null, 0);
            int near = answer(NEAR, hills.today);
            int last = hills.stepCount - 1;
            int lies = kind == MANY && last >= 0 ? hills.steps[last] : cell;
            if (isNearKnown(lies, near)) {
                return TOO_NEAR;
            }
            return isNearSecret(lies, near) ? NEAR_A_SECRET : 0;
        }

        /** Asks for the CELL told, and for each STEP of a MANY. */
        private boolean leavesLet(Finder f, int kind, int cell) {
            int stepsAsked = kind == MANY ? hills.stepCount : 0;
            for (int i = -1; i < stepsAsked; i++) {
                int asked = i < 0 ? cell : hills.steps[i];
                int owner = hills.owners[asked];
                askForKind(hills.today, f, kind, asked);
                if (owner >= 0 && answer(LEAVE + owner, hills.today) == 0) {
                    return false;
                }
            }
            return true;
        }

        private boolean isNearKnown(int lies, int near) {
            for (int i = 0; i < hills.size; i++) {
                Box b = hills.boxAt(i);
                if (b != null && !b.isDown() && (far(lies, b.liesNow()) < near || far(lies, b.cell) < near)) {
                    return true;
                }
            }
            return false;
        }

        private boolean isNearSecret(int lies, int near) {
            for (int i = 0; i < hills.size; i++) {
                Box b = hills.boxAt(i);
                for (int k = 0; b != null && !b.isDown() && k < b.stepCount - 1; k++) {
                    if (far(lies, b.steps[k]) < near) {
                        return true;
                    }
                }
            }
            return false;
        }

        /** What the TEXT of a RULE gives for what is asked. */
        private int work(int rule) {
            line = -1;
            if (rule < 0 || rule >= made) {
                return 0;
            }
            int begin = rule * Tape.LONGEST_CODE, end = begin + codeLengths[rule];
            int top = 0, lineNow = 0;
            boolean counts = true;
            for (int i = begin; i < end && i < codes.length; i++) {
                int op = codes[i];
                if (op > Tape.OPERATIONS) {
                    top = push(top, op >= 0 ? op : numberOf(Tape.NAMES_FROM - op));
                } else if (op == Tape.NEGATED || op == Tape.NOT_SO) {
                    top = push(top - 1, op == Tape.NEGATED ? -read(top - 1) : read(top - 1) == 0 ? 1 : 0);
                } else if (op == Tape.IF_SO || op == Tape.UNLESS_SO) {
                    top--;
                    counts = read(top) != 0 == (op == Tape.IF_SO);
                } else if (op == Tape.END_OF_LINE) {
                    top--;
                    if (counts) {
                        line = lineNow;
                        return read(top);
                    }
                    lineNow++;
                    counts = true;
                } else {
                    top = push(top - 2, ofTwo(op, read(top - 2), read(top - 1)));
                }
            }
            return 0;
        }

        private int push(int top, int v) {
            if (top >= 0 && top < DEEPEST_STACK) {
                stack[top] = v;
            }
            return top + 1;
        }

        private int read(int at) {
            return at < 0 || at >= DEEPEST_STACK ? 0 : stack[at];
        }

        private static int ofTwo(int op, int a, int b) {
            switch (op) {
                case Tape.OR: return a != 0 || b != 0 ? 1 : 0;
                case Tape.AND: return a != 0 && b != 0 ? 1 : 0;
                case Tape.LESS: return a < b ? 1 : 0;
                case Tape.SAME: return a == b ? 1 : 0;
                case Tape.MORE: return a > b ? 1 : 0;
                case Tape.PLUS: return a + b;
                case Tape.MINUS: return a - b;
                case Tape.TIMES: return a * b;
                case Tape.OVER: return b == 0 ? 0 : a / b;
                case Tape.REST: return b == 0 ? 0 : a % b;
                default: return 0;
            }
        }

        /** What is of a BOX or FINDER that there is not is 0. */
        private int numberOf(int name) {
            Finder f = askedFinder;
            Box b = askedBox;
            switch (name) {
                case Tape.DAY: return askedDay;
                case Tape.KIND: return askedKind;
                case Tape.OWN: return f == null ? 0 : hills.ownOf(f.number);
                case Tape.SINCE: return f == null ? 0 : askedDay - f.since;
                case Tape.AGE: return b == null ? 0 : askedDay - b.hiddenOn;
                case Tape.FINDS: return b == null ? 0 : b.finds;
                case Tape.MISSES: return b == null ? 0 : b.misses;
                case Tape.HOUR: return askedHour;
                case Tape.HOME: return f == null || askedCell < 0 ? 0 : far(f.home, askedCell);
                case Tape.PAPER: return f != null && b != null && b.isOnPaper(f.number) ? 1 : 0;
                case Tape.MINE: return f != null && b != null && b.keeper == f.number ? 1 : 0;
                default: return 0;
            }
        }
    }

    /** THE TAPE, and the way from its bytes to a row of numbers, NAMES and operations behind what they work on. */
    private static final class Tape {
        /** Each byte gives one number of the code at the most, and the last LINE has an end. */
        static final int LONGEST = 160, LONGEST_CODE = LONGEST + 1;

        /** In a code: numbers are themselves, NAMES stand at NAMES_FROM and below, operations below OPERATIONS. */
        static final int NAMES_FROM = -1, OPERATIONS = -20;
        static final int DAY = 0, KIND = 1, OWN = 2, SINCE = 3, AGE = 4, FINDS = 5, MISSES = 6, HOUR = 7, HOME = 8,
            PAPER = 9, MINE = 10;
        static final int OR = -21, AND = -22, LESS = -23, SAME = -24, MORE = -25, PLUS = -26, MINUS = -27,
            TIMES = -28, OVER = -29, REST = -30, NEGATED = -31, NOT_SO = -32, IF_SO = -33, UNLESS_SO = -34,
            END_OF_LINE = -35;

        /** The NAMES in the order of their numbers, then the key words in that of theirs. */
        private static final String WORDS = "day kind own since age finds misses hour home paper mine or and not if unless ";
        private static final String SIGNS = ";:<>=+-*/%()";
        private static final int OR_WORD = 11, AND_WORD = 12, NOT_WORD = 13, IF_WORD = 14, UNLESS_WORD = 15;
        /** A TOKEN is the byte of a sign, or one of these, or a key word at WORD_TOKENS and its number. */
        private static final int AT_END = 0, NONE = 1, NUMBER = 2, NAME = 3, WORD_TOKENS = 300;
        private static final int MOST_DIGITS = 5, MOST_OPEN = 6;

        int length;

        private final int[] bytes = new int[LONGEST];
        /** The TOKENS, the places of their first bytes, and what NUMBERS and NAMES are in a code. */
        private final int[] tokens = new int[LONGEST + 1];
        private final int[] places = new int[LONGEST + 1];
        private final int[] values = new int[LONGEST + 1];
        /** The byte that is read next. */
        private int at;
        /** The TOKEN that is read, and its number. */
        private int token;
        private int tokenNumber;
        private int fault;
        private final int[] code = new int[LONGEST_CODE];
        private int codeLength;

        boolean hasRoomFor(int n) {
            return length <= LONGEST - n;
        }

        void append(int b) {
            if (length < LONGEST) {
                bytes[length] = b;
                length++;
            }
        }

        /** How many numbers of the code came to a row from a place on. */
        int copyCode(int[] row, int from) {
            if (from < 0 || from > row.length - codeLength) {
                return 0;
            }
            System.arraycopy(code, 0, row, from, codeLength);
            return codeLength;
        }

        /** The FAULT; -1: none, and the code stands. */
        int compile() {
            splitIntoTokens();
            codeLength = 0;
            fault = -1;
            tokenNumber = 0;
            token = tokens[0];
            readLine();
            for (int i = 0; i < LONGEST && fault < 0 && token == ';'; i++) {
                advance();
                readLine();
            }
            if (token != AT_END) {
                blame();
            }
            return fault;
        }

        /** The TOKEN can't stand where it stands; the first one so blamed is the FAULT. */
        private void blame() {
            if (fault < 0) {
                fault = places[tokenNumber];
            }
        }

        private void emit(int op) {
            if (codeLength < LONGEST_CODE) {
                code[codeLength] = op;
                codeLength++;
            }
        }

        private void readLine() {
            int condition = token == WORD_TOKENS + IF_WORD ? IF_SO : token == WORD_TOKENS + UNLESS_WORD ? UNLESS_SO : 0;
            if (condition != 0) {
                advance();
                readEither(0);
                emit(condition);
                expect(':');
            }
            readEither(0);
            emit(END_OF_LINE);
        }

        private void expect(int sign) {
            if (token == sign && fault < 0) {
                advance();
            } else {
                blame();
            }
        }

        /** E. 'open' is how many of ( not - are open around it. */
        private void readEither(int open) {
            readBoth(open);
            for (int i = 0; i < LONGEST && fault < 0 && token == WORD_TOKENS + OR_WORD; i++) {
                advance();
                readBoth(open);
                emit(OR);
            }
        }

        /** A. */
        private void readBoth(int open) {
            readDenied(open);
            for (int i = 0; i < LONGEST && fault < 0 && token == WORD_TOKENS + AND_WORD; i++) {
                advance();
                readDenied(open);
                emit(AND);
            }
        }

        /** B. */
        private void readDenied(int open) {
            int nots = 0;
            while (nots <= MOST_OPEN && token == WORD_TOKENS + NOT_WORD && mayOpen(open + nots)) {
                nots++;
            }
            readSum(open + nots);
            int op = token == '<' ? LESS : token == '=' ? SAME : token == '>' ? MORE : 0;
            if (op != 0 && fault < 0) {
                advance();
                readSum(open + nots);
                emit(op);
            }
            for (int i = 0; i < nots; i++) {
                emit(NOT_SO);
            }
        }

        /** S. */
        private void readSum(int open) {
            readProduct(open);
            for (int i = 0; i < LONGEST && fault < 0 && (token == '+' || token == '-'); i++) {
                int op = token == '+' ? PLUS : MINUS;
                advance();
                readProduct(open);
                emit(op);
            }
        }

        /** P. */
        private void readProduct(int open) {
            readOne(open);
            for (int i = 0; i < LONGEST && fault < 0 && (token == '*' || token == '/' || token == '%'); i++) {
                int op = token == '*' ? TIMES : token == '/' ? OVER : REST;
                advance();
                readOne(open);
                emit(op);
            }
        }

        /** O. */
        private void readOne(int open) {
            int signs = 0;
            while (signs <= MOST_OPEN && token == '-' && mayOpen(open + signs)) {
                signs++;
            }
            if (token == NUMBER || token == NAME) {
                emit(values[tokenNumber]);
                advance();
            } else if (token == '(' && mayOpen(open + signs)) {
                readEither(open + signs + 1);
                expect(')');
            } else {
                blame();
            }
            for (int i = 0; i < signs; i++) {
                emit(NEGATED);
            }
        }

        private boolean mayOpen(int open) {
            if (open >= MOST_OPEN || fault >= 0) {
                blame();
                return false;
            }
            advance();
            return true;
        }

        private void advance() {
            if (tokenNumber < LONGEST && token != AT_END) {
                tokenNumber++;
                token = tokens[tokenNumber];
            }
        }

        private void splitIntoTokens() {
            at = 0;
            for (int i = 0; i <= LONGEST; i++) {
                skipBlanks();
                places[i] = at;
                int b = byteAt(at);
                if (b < 0) {
                    tokens[i] = AT_END;
                    return;
                }
                if (isLetter(b)) {
                    readWord(i);
                } else if (isDigit(b)) {
                    readNumber(i);
                } else {
                    tokens[i] = SIGNS.indexOf((char) b) >= 0 ? b : NONE;
                    at++;
                }
            }
        }

        private void skipBlanks() {
            for (int i = 0; i < LONGEST && byteAt(at) == ' '; i++) {
                at++;
            }
        }

        /** -1 behind the last one. */
        private int byteAt(int i) {
            return i < 0 || i >= length || i >= LONGEST ? -1 : bytes[i];
        }

        private static boolean isLetter(int b) {
            return b >= 'a' && b <= 'z';
        }

        private static boolean isDigit(int b) {
            return b >= '0' && b <= '9';
        }

        private void readNumber(int i) {
            int value = 0;
            tokens[i] = NUMBER;
            for (int k = 0; k < LONGEST && isDigit(byteAt(at)); k++) {
                if (k < MOST_DIGITS) {
                    value = 10 * value + byteAt(at) - '0';
                } else {
                    tokens[i] = NONE;
                }
                at++;
            }
            values[i] = value;
        }

        private void readWord(int i) {
            for (int k = 0; k < LONGEST && isLetter(byteAt(at)); k++) {
                at++;
            }
            int number = wordNumber(places[i], at - places[i]);
            tokens[i] = number < 0 ? NONE : number < OR_WORD ? NAME : WORD_TOKENS + number;
            values[i] = NAMES_FROM - number;
        }

        /** The number among WORDS of so many bytes from one on; -1: they are none of them. */
        private int wordNumber(int from, int n) {
            int number = 0, begin = 0;
            for (int i = 0; i < WORDS.length(); i++) {
                if (WORDS.charAt(i) == ' ') {
                    if (i - begin == n && isWord(begin, from, n)) {
                        return number;
                    }
                    number++;
                    begin = i + 1;
                }
            }
            return -1;
        }

        private boolean isWord(int begin, int from, int n) {
            for (int i = 0; i < n && begin + i < WORDS.length(); i++) {
                if (WORDS.charAt(begin + i) != byteAt(from + i)) {
                    return false;
                }
            }
            return true;
        }
    }

    /** The TELLINGS of a RIDDLE, and the search for its SOLUTIONS. */
    private static final class Riddle {
        static final int MOST_TELLINGS = 8;

        private static final int LETTERS = 6, NO_LETTER = 6, FIVE = 5;
        private static final int SUM = 0, PRODUCT = 1, DIFFERENCE = 2, ITSELF = 3, X = 4, Y = 5;
        private static final int[] LEAST_NUMBER = {0, 0, -9, 0, 0, 0};
        private static final int[] GREATEST_NUMBER = {18, 81, 9, 9, 9, 9};

        /** The latest one met, by its digits and its CELL. */
        int solution;
        int solutionCell;
        /** The CELLS that the SOLUTIONS met give, as bits. */
        long cells;

        private final int[] sorts = new int[MOST_TELLINGS];
        private final int[] firsts = new int[MOST_TELLINGS];
        private final int[] seconds = new int[MOST_TELLINGS];
        private final int[] numbers = new int[MOST_TELLINGS];
        /** Of each the letter that gets its digit last. */
        private final int[] lasts = new int[MOST_TELLINGS];
        private int told;
        /** The letters told, as bits. */
        private int letters;
        /** The TELLINGS that give x and y; -1: none. */
        private int x = -1;
        private int y = -1;

        private final int[] digits = new int[LETTERS];
        private int met;
        /** How many are looked for. */
        private int wanted;

        boolean tellsCell() {
            return x >= 0 && y >= 0;
        }

        int takeTellings(Shelf row, int from, int n) {
            told = 0;
            letters = 0;
            x = -1;
            y = -1;
            for (int k = 0; k < n && k < MOST_TELLINGS; k++) {
                if (!takeFive(row, from + (long) FIVE * k)) {
                    break;
                }
            }
            return told;
        }

        private boolean takeFive(Shelf row, long from) {
            if (!row.hasPlaces(from, FIVE)) {
                return false;
            }
            int sort = (int) row.elementOr(from, -1);
            int first = (int) row.elementOr(from + 1, -1);
            int second = (int) row.elementOr(from + 2, -1);
            int number = (int) row.elementOr(from + 3, -1);
            if (row.elementOr(from + 4, -1) != 0 || !isTelling(sort, first, second, number)) {
                return false;
            }
            sorts[told] = sort;
            firsts[told] = first;
            seconds[told] = second;
            numbers[told] = number;
            lasts[told] = sort > DIFFERENCE ? first : Math.max(first, second);
            letters |= first == NO_LETTER ? 0 : 1 << first;
            letters |= sort > DIFFERENCE ? 0 : 1 << second;
            x = sort == X ? told : x;
            y = sort == Y ? told : y;
            told++;
            return true;
        }

        private static boolean isTelling(int sort, int first, int second, int number) {
            if (sort < SUM || sort > Y || first < 0 || first > (sort >= X ? NO_LETTER : LETTERS - 1)) {
                return false;
            }
            if (sort <= DIFFERENCE && (second < 0 || second >= LETTERS)) {
                return false;
            }
            return number >= LEAST_NUMBER[sort] && number <= GREATEST_NUMBER[sort];
        }

        int countSolutions() {
            lookFor(Integer.MAX_VALUE);
            return met;
        }

        /** Whether there is an i-th SOLUTION; it is the latest one met then. */
        boolean findSolution(int i) {
            if (i < 0 || i == Integer.MAX_VALUE) {
                return false;
            }
            lookFor(i + 1);
            return met == wanted;
        }

        private void lookFor(int many) {
            wanted = many;
            met = 0;
            cells = 0;
            if (tellsCell()) {
                search(0, 0, 0);
            }
        }

        /** Gives digits to the letters told from one on. */
        private void search(int from, int used, int soFar) {
            int letter = from;
            while (letter < LETTERS && (letters >> letter & 1) == 0) {
                letter++;
            }
            if (letter < LETTERS) {
                tryDigits(letter, used, soFar);
            } else {
                meet(soFar);
            }
        }

        /** The least digit goes first: so SOLUTIONS are met in the order of their digits. */
        private void tryDigits(int letter, int used, int soFar) {
            for (int d = 0; d < 10 && met < wanted; d++) {
                if ((used >> d & 1) == 0) {
                    digits[letter] = d;
                    if (allHoldAt(letter)) {
                        search(letter + 1, used | 1 << d, 10 * soFar + d);
                    }
                }
            }
        }

        private void meet(int found) {
            int atX = coordinate(x);
            int atY = coordinate(y);
            if (isWithin(atX, WIDTH) && isWithin(atY, HEIGHT)) {
                solution = found;
                solutionCell = WIDTH * atY + atX;
                cells |= 1L << solutionCell;
                met++;
            }
        }

        /** Whether all TELLINGS hold of which this letter is the last one: those ahead have their digits. */
        private boolean allHoldAt(int letter) {
            for (int k = 0; k < told; k++) {
                if (lasts[k] == letter && !holds(k)) {
                    return false;
                }
            }
            return true;
        }

        private boolean holds(int k) {
            int a = digitOf(firsts[k]);
            switch (sorts[k]) {
                case SUM: return a + digitOf(seconds[k]) == numbers[k];
                case PRODUCT: return a * digitOf(seconds[k]) == numbers[k];
                case DIFFERENCE: return a - digitOf(seconds[k]) == numbers[k];
                case ITSELF: return a == numbers[k];
                case X: return k != x || isWithin(coordinate(k), WIDTH);
                default: return k != y || isWithin(coordinate(k), HEIGHT);
            }
        }

        private static boolean isWithin(int at, int width) {
            return at >= 0 && at < width;
        }

        private int coordinate(int k) {
            if (k < 0 || k >= MOST_TELLINGS) {
                return -1;
            }
            return firsts[k] == NO_LETTER ? numbers[k] : digitOf(firsts[k]) - numbers[k];
        }

        private int digitOf(int letter) {
            return letter < 0 || letter >= LETTERS ? 0 : digits[letter];
        }
    }

    /** LOGS by wire, and what follows from them. */
    private static final class Logs {
        static final int NOWHERE = 1, TOO_SOON = 2, BY_DAY = 3, NOT_ON_PAPER = 4;

        private static final int SAME = 0, HERE = 1, THERE = 2;

        final int[] finder = new int[MOST_LOGS];
        final boolean[] found = new boolean[MOST_LOGS];
        int size;
        /** FINDS of each FINDER, as tallied last. */
        final int[] tally = new int[MOST_BODIES];

        private final int[] box = new int[MOST_LOGS];
        private final int[] at = new int[MOST_LOGS];
        private final boolean[] tallied = new boolean[MOST_LOGS];
        private final Hills hills;
        private final Rules rules;

        Logs(Hills hills, Rules rules) {
            this.hills = hills;
            this.rules = rules;
        }

        boolean has(int log) {
            return log >= 0 && log < size;
        }

        int enter(int finderOf, int boxOf, int moment, boolean wasFound) {
            finder[size] = finderOf;
            box[size] = boxOf;
            at[size] = moment;
            found[size] = wasFound;
            size++;
            recount(hills.boxAt(boxOf));
            return size - 1;
        }

        private void recount(Box b) {
            if (b == null) {
                return;
            }
            b.finds = 0;
            b.misses = 0;
            b.latestFound = -1;
            for (int i = 0; i < size; i++) {
                if (box[i] == b.number && found[i]) {
                    b.finds++;
                    b.latestFound = b.latestFound < 0 || isBehind(i, b.latestFound) ? i : b.latestFound;
                }
            }
            for (int i = 0; i < size; i++) {
                b.misses += isMissBehindFound(i, b) ? 1 : 0;
            }
        }

        private boolean isMissBehindFound(int log, Box b) {
            return box[log] == b.number && !found[log] && (b.latestFound < 0 || isBehind(log, b.latestFound));
        }

        private boolean isBehind(int log, int other) {
            return at[log] > at[other] || at[log] == at[other] && log > other;
        }

        boolean hasLogFrom(int ofBox, int moment) {
            for (int i = 0; i < size; i++) {
                if (box[i] == ofBox && at[i] >= moment) {
                    return true;
                }
            }
            return false;
        }

        /** Where a FINDER stands in the JOIN of a BOX; -1: in none of its parts. */
        int joinOf(int ofFinder, Box b) {
            boolean onPaper = b.isOnPaper(ofFinder);
            for (int i = 0; i < size; i++) {
                if (found[i] && finder[i] == ofFinder && box[i] == b.number) {
                    return onPaper ? SAME : HERE;
                }
            }
            return onPaper ? THERE : -1;
        }

        /** The first LOG found of a BOX that COUNTS; -1: none. */
        int firstThatCounts(int ofBox) {
            int least = -1;
            for (int i = 0; i < size; i++) {
                boolean isEarlier = box[i] == ofBox && found[i] && (least < 0 || isBehind(least, i));
                if (isEarlier && rules.counts(finder[i], ofBox, at[i], -1)) {
                    least = i;
                }
            }
            return least;
        }

        /** Where the BOX of a LOG lay at it; -1: nowhere. */
        private int placeOfBox(int log) {
            return has(log) ? hills.whereLay(hills.boxAt(box[log]), at[log]) : -1;
        }

        /** FALSE of a LOG: which; 0: none. */
        int whyFalse(int log) {
            Box b = hills.boxAt(box[log]);
            if (!found[log] || b == null) {
                return 0;
            }
            if (placeOfBox(log) < 0) {
                return NOWHERE;
            }
            if (tooSoonBy(log) >= 0) {
                return TOO_SOON;
            }
            if (b.kind == NIGHT && !isNightHour(at[log] % HOURS)) {
                return BY_DAY;
            }
            boolean isMissing = b.paperSeen && !b.isOnPaper(finder[log]);
            return isMissing && isBetweenMisses(log) ? NOT_ON_PAPER : 0;
        }

        /** The least LOG found of that FINDER from which nobody could have come here by then; -1: none. */
        int tooSoonBy(int log) {
            int here = placeOfBox(log);
            for (int i = 0; here >= 0 && i < size; i++) {
                if (i != log && found[i] && finder[i] == finder[log]) {
                    int there = placeOfBox(i);
                    if (there >= 0 && Math.abs(at[i] - at[log]) < hoursBetween(here, there)) {
                        return i;
                    }
                }
            }
            return -1;
        }

        private boolean isBetweenMisses(int log) {
            int ahead = -1, behind = -1;
            for (int i = 0; i < size; i++) {
                if (i == log || box[i] != box[log]) {
                    continue;
                }
                if (isBehind(log, i)) {
                    ahead = ahead < 0 || isBehind(i, ahead) ? i : ahead;
                } else {
                    behind = behind < 0 || isBehind(behind, i) ? i : behind;
                }
            }
            return ahead >= 0 && behind >= 0 && !found[ahead] && !found[behind];
        }

        int goneFrom(Box b) {
            return b.latestFound < 0 ? HOURS * b.hiddenOn : at[b.latestFound];
        }

        /** The MOMENT of the first LOG that says not found behind the latest found. */
        int goneTo(Box b) {
            int least = -1;
            for (int i = 0; i < size; i++) {
                if (isMissBehindFound(i, b) && (least < 0 || at[i] < least)) {
                    least = at[i];
                }
            }
            return least;
        }

        /** Of FINDERS with 2 LOGS found or more: how many there are, or how many of these came too soon. */
        int chanceOf(boolean tooSoonAlone) {
            int met = 0;
            for (int i = 0; i < size; i++) {
                if (found[i] && hasAnotherFound(i) && (!tooSoonAlone || whyFalse(i) == TOO_SOON)) {
                    met++;
                }
            }
            return met;
        }

        private boolean hasAnotherFound(int log) {
            for (int i = 0; i < size; i++) {
                if (i != log && found[i] && finder[i] == finder[log]) {
                    return true;
                }
            }
            return false;
        }

        /** WHERE a THING is by its k-th telling: a BOX or a FINDER; -1: not seen since. */
        int whereAfter(Thing t, int k) {
            if (k < 0 || k >= t.told) {
                return -1;
            }
            return t.left[k] ? box[t.logs[k]] : finder[t.logs[k]];
        }

        boolean isJump(Thing t, int k) {
            int from = t.left[k] ? finder[t.logs[k]] : box[t.logs[k]];
            return whereAfter(t, k - 1) != from;
        }

        int chainOf(Thing t) {
            int all = 0, ahead = -1;
            for (int k = 0; k < t.told; k++) {
                if (t.left[k]) {
                    int from = placeOfBox(ahead);
                    int to = placeOfBox(t.logs[k]);
                    all += from < 0 || to < 0 ? 0 : far(from, to);
                    ahead = t.logs[k];
                }
            }
            return all;
        }

        /** Tallies FINDS of all FINDERS on a DAY, with a RULE beside those in force (-1: none). */
        void tallyFinds(int day, int beside) {
            Arrays.fill(tally, 0);
            for (int i = 0; i < size; i++) {
                tallied[i] = found[i] && at[i] / HOURS <= day
                    && rules.counts(finder[i], box[i], at[i], beside) && whyFalse(i) == 0;
                if (tallied[i] && !isTalliedAhead(i)) {
                    tally[finder[i]]++;
                }
            }
        }

        /** Whether a LOG ahead tells the same BOX for the same FINDER: a BOX is one find. */
        private boolean isTalliedAhead(int log) {
            for (int i = 0; i < log; i++) {
                if (tallied[i] && finder[i] == finder[log] && box[i] == box[log]) {
                    return true;
                }
            }
            return false;
        }

        /** The place of a FINDER by the latest tally. */
        int placeOf(int ofFinder) {
            int place = 1;
            for (int i = 0; i < tally.length; i++) {
                place += tally[i] > tally[ofFinder] ? 1 : 0;
            }
            return place;
        }
    }

    /** BOXES told for a WALK, and the search for the best one. */
    private static final class Walks {
        static final int MOST_WISHES = 7;

        private static final int LONGEST = 48;
        private static final int EVENING = 20;

        int wishes;
        /** HOURS and BOXES of the latest walk that was found; -1 HOURS: none. */
        int walkedHours = -1;
        int walkedCount;
        final int[] walked = new int[MOST_WISHES];

        private final Box[] boxes = new Box[MOST_WISHES];
        private final int[] worths = new int[MOST_WISHES];
        private final int[] stays = new int[MOST_WISHES];

        /** The row that is tried (by places told), and the best one so far. */
        private final int[] row = new int[MOST_WISHES];
        private int rowCount;
        private final int[] best = new int[MOST_WISHES];
        private int bestCount;
        private int bestWorth;
        private int bestHours;
        private int home;
        private int setOutHour;
        private int limit;

        static boolean isSetOut(int at, int hours) {
            return at >= 0 && at < HOURS * CELLS && hours >= 1 && hours <= LONGEST;
        }

        boolean isWished(int box) {
            for (int i = 0; i < wishes; i++) {
                if (boxes[i] != null && boxes[i].number == box) {
                    return true;
                }
            }
            return false;
        }

        int wishFor(Box b, int worth, int hours) {
            boxes[wishes] = b;
            worths[wishes] = worth;
            stays[wishes] = hours;
            wishes++;
            return wishes;
        }

        boolean findBest(int at, int hours) {
            setOut(at);
            limit = hours;
            bestWorth = 0;
            extend(0, 0, home, 0, 0);
            return bestWorth > 0;
        }

        private void setOut(int at) {
            home = at / HOURS;
            setOutHour = at % HOURS;
        }

        /** Tries each BOX left behind a row; rows come place by place in order, so of like ones the first stays. */
        private void extend(int count, int used, int cell, int time, int worth) {
            for (int i = 0; i < wishes && count < MOST_WISHES; i++) {
                if ((used >> i & 1) == 0) {
                    row[count] = i;
                    goOnBehind(count + 1, used | 1 << i, timeBehind(i, cell, time), worth + worths[i]);
                }
            }
        }

        /** Goes on from the last BOX of a row that is done at a time. */
        private void goOnBehind(int count, int used, int time, int worth) {
            int cell = cellOf(row[count - 1]);
            if (time <= limit) {
                compare(count, worth, time + hoursBetween(cell, home));
                extend(count, used, cell, time, worth);
            }
        }

        private int cellOf(int place) {
            Box b = place < 0 || place >= wishes ? null : boxes[place];
            return b == null ? home : b.liesNow();
        }

        /** When one is done with a BOX, coming from a CELL at a time (from setting out on). */
        private int timeBehind(int place, int cell, int time) {
            int begin = time + hoursBetween(cell, cellOf(place));
            Box b = boxes[place];
            int hour = (setOutHour + begin) % HOURS;
            if (b != null && b.kind == NIGHT && !isNightHour(hour)) {
                begin += EVENING - hour;
            }
            return begin + stays[place];
        }

        private void compare(int count, int worth, int all) {
            if (all > limit || worth < bestWorth || worth == bestWorth && all >= bestHours) {
                return;
            }
            bestWorth = worth;
            bestHours = all;
            bestCount = count;
            System.arraycopy(row, 0, best, 0, count);
        }

        /** The worth of the best row; it is the latest walk then, and no BOXES are told. */
        int takeBest() {
            walkedHours = bestHours;
            walkedCount = bestCount;
            for (int i = 0; i < bestCount; i++) {
                Box b = boxes[best[i]];
                walked[i] = b == null ? -1 : b.number;
            }
            wishes = 0;
            return bestWorth;
        }

        /** Whether the digits of a number are a row of places told and 1. */
        boolean readRow(int digits) {
            int used = 0, rest = digits;
            rowCount = 0;
            for (int i = 0; i < MOST_WISHES && rest > 0; i++) {
                int place = rest % 10 - 1;
                if (place < 0 || place >= wishes || (used >> place & 1) != 0) {
                    return false;
                }
                used |= 1 << place;
                row[i] = place;
                rowCount = i + 1;
                rest /= 10;
            }
            return rowCount > 0 && rest == 0;
        }

        /** HOURS of the row that was read last: its digits came from the last place on. */
        int hoursOfRow(int at) {
            setOut(at);
            int cell = home, time = 0;
            for (int i = rowCount - 1; i >= 0; i--) {
                time = timeBehind(row[i], cell, time);
                cell = cellOf(row[i]);
            }
            return time + hoursBetween(cell, home);
        }
    }

    /** What stands on a SHELF: nothing, a BODY, or a ROW. */
    private static final class Shelf {
        Body body;
        boolean isRow;
        int sort;
        int size;
        final long[] elements = new long[LONGEST_ROW];

        void hold(Body b) {
            body = b;
            isRow = false;
        }

        void holdRow(int ofSort, int n) {
            body = null;
            isRow = true;
            sort = ofSort;
            size = n;
            Arrays.fill(elements, 0);
        }

        boolean isEmpty() {
            return body == null && !isRow;
        }

        boolean isRowOf(int wanted) {
            return isRow && sort == wanted;
        }

        boolean hasPlaces(long from, int n) {
            return isRow && from >= 0 && n >= 0 && from <= size - n;
        }

        /** An element of a ROW, or what is said instead where there is none. */
        long elementOr(long i, long none) {
            return hasPlaces(i, 1) ? elements[(int) i] : none;
        }

        /** Why the host has no i-th element here; 0: it has. */
        int refusalOf(int i) {
            if (isEmpty()) {
                return NOTHING_THERE;
            }
            if (!isRow) {
                return OTHER_KIND;
            }
            return hasPlaces(i, 1) ? 0 : NO_SUCH_PLACE;
        }

        void setElement(int i, long v) {
            if (hasPlaces(i, 1)) {
                elements[i] = narrowed(v);
            }
        }

        private long narrowed(long v) {
            switch (sort) {
                case BYTES: return (byte) v;
                case SHORTS: return (short) v;
                case INTS: return (int) v;
                case LONGS: return v;
                default: return v != 0 ? 1 : 0;
            }
        }
    }
}
