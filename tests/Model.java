import java.io.ByteArrayOutputStream;
import java.math.BigInteger;
import java.util.ArrayList;
import java.util.Arrays;
import java.util.Collections;
import java.util.Comparator;
import java.util.HashMap;
import java.util.HashSet;
import java.util.LinkedHashSet;
import java.util.List;
import java.util.Map;
import java.util.Objects;
import java.util.Set;
import java.util.TreeMap;
import java.util.TreeSet;
import java.util.stream.Collectors;

/** A second, slow reading of the document: each answer is found anew from what was told, with the whole library. */
final class Model {
    private static final int BAD = -1, NOT = -2, FULL = -3, BIG = -4, STATE = -5, VOID = -2000000000;
    private static final int[][] UP = {{0}, {1, 0}, {2, 1, 0}, {3, 1, 0}, {4, 1, 0}, {5, 2, 1, 0}, {6, 0}, {7, 0}};

    private static final class Body {
        int number, kind, home, since, left = -1;
        int keeper, hidden, down = -1, looked = -1;
        final List<Integer> path = new ArrayList<>();
        final TreeMap<Integer, Integer> cellsFrom = new TreeMap<>();
        List<Integer> paper;
        final Set<Integer> askers = new LinkedHashSet<>();
        final List<int[]> tellings = new ArrayList<>();

        boolean isBox() {
            return kind >= 1 && kind <= 5;
        }
    }

    private static final class Rule {
        int use, made, from;
        Text text;
    }

    private static final class Log {
        int number, finder, box, at;
        boolean found;
    }

    private int today;
    private final int[] owners = new int[60];
    private final List<Body> bodies = new ArrayList<>();
    private final List<Integer> steps = new ArrayList<>();
    private final ByteArrayOutputStream tape = new ByteArrayOutputStream();
    private final List<Rule> rules = new ArrayList<>();
    private final List<Log> logs = new ArrayList<>();
    private final List<int[]> wishes = new ArrayList<>();
    private List<Integer> walked;
    private int walkedHours;
    private final List<Integer> trace = new ArrayList<>();
    private final Object[] shelves = new Object[6];
    private final int[] sorts = new int[6];
    private int line;

    Model() {
        Arrays.fill(owners, -1);
    }

    // ---- what is where

    private Body at(int n) {
        return n >= 0 && n < bodies.size() ? bodies.get(n) : null;
    }

    private Body box(int n) {
        Body b = at(n);
        return b != null && b.isBox() ? b : null;
    }

    private Body of(int n, int kind) {
        Body b = at(n);
        return b != null && b.kind == kind ? b : null;
    }

    private List<Body> boxes() {
        return bodies.stream().filter(Body::isBox).collect(Collectors.toList());
    }

    private List<Body> lying() {
        return boxes().stream().filter(b -> b.down < 0).collect(Collectors.toList());
    }

    private List<Body> finders() {
        return bodies.stream().filter(b -> b.kind == 7).collect(Collectors.toList());
    }

    private static boolean cell(int c) {
        return c >= 0 && c <= 59;
    }

    private static boolean day(int d) {
        return d >= 0 && d <= 999;
    }

    private static int far(int a, int b) {
        return Math.abs(a / 10 - b / 10) + Math.abs(a % 10 - b % 10);
    }

    private static int half(int far) {
        return far / 2 + far % 2;
    }

    private int cellOf(Body b) {
        return b.cellsFrom.lastEntry().getValue();
    }

    private int lies(Body b) {
        return b.kind == 3 ? b.path.get(b.path.size() - 1) : cellOf(b);
    }

    private Integer lay(Body b, int moment) {
        if (moment < 24 * b.hidden || b.down >= 0 && moment >= 24 * b.down) {
            return null;
        }
        return b.kind == 3 ? Integer.valueOf(lies(b)) : b.cellsFrom.floorEntry(moment).getValue();
    }

    private Integer lay(Log l) {
        return lay(box(l.box), l.at);
    }

    private int own(Body f) {
        return (int) lying().stream().filter(b -> b.keeper == f.number).count();
    }

    // ---- days, ground, bodies

    int days(int n) {
        if (n < 1 || n > 100 || today + n > 999) {
            return BAD;
        }
        return today += n;
    }

    int owner(int cell, int owner) {
        if (!cell(cell) || owner < -1 || owner > 9) {
            return VOID;
        }
        int was = owners[cell];
        owners[cell] = owner;
        return was;
    }

    private Body enter(int kind) {
        Body b = new Body();
        b.kind = kind;
        b.number = bodies.size();
        bodies.add(b);
        return b;
    }

    int body(int kind) {
        if (kind != 0 && kind != 6) {
            return BAD;
        }
        return bodies.size() == 150 ? FULL : enter(kind).number;
    }

    int finder(int cell) {
        if (!cell(cell)) {
            return BAD;
        }
        if (bodies.size() == 150) {
            return FULL;
        }
        Body f = enter(7);
        f.home = cell;
        f.since = today;
        return f.number;
    }

    int leaves(int finder) {
        Body f = of(finder, 7);
        if (f == null) {
            return BAD;
        }
        if (f.left >= 0) {
            return NOT;
        }
        f.left = today;
        return 1;
    }

    int step(int cell) {
        if (!cell(cell)) {
            return BAD;
        }
        if (steps.size() == 4) {
            return FULL;
        }
        steps.add(cell);
        return steps.size();
    }

    private int whyOf(Body f, int kind, int cell) {
        if (f.left >= 0 || hideGives(f, kind, cell) == 0) {
            return 1;
        }
        List<Integer> asked = new ArrayList<>(List.of(cell));
        if (kind == 3) {
            asked.addAll(steps);
        }
        for (int c : asked) {
            if (owners[c] >= 0 && gives(10 + owners[c], today, names(today, f, null, kind, c, 0)) == 0) {
                return 2;
            }
        }
        int near = near();
        int would = asked.get(asked.size() - 1);
        Set<Integer> known = new HashSet<>();
        Set<Integer> secret = new HashSet<>();
        for (Body b : lying()) {
            known.add(lies(b));
            secret.addAll(b.path);
            if (b.kind == 3) {
                known.add(b.path.get(0));
            }
        }
        if (known.stream().anyMatch(c -> far(c, would) < near)) {
            return 3;
        }
        return secret.stream().anyMatch(c -> far(c, would) < near) ? 4 : 0;
    }

    private boolean mayAsk(int finder, int kind, int cell) {
        return of(finder, 7) != null && kind >= 1 && kind <= 5 && cell(cell) && (kind != 3 || !steps.isEmpty());
    }

    int why(int finder, int kind, int cell, int what) {
        if (!mayAsk(finder, kind, cell) || what != 0 && what != 1) {
            return BAD;
        }
        int why = whyOf(at(finder), kind, cell);
        return why == 4 && what == 0 ? 3 : why;
    }

    int hide(int finder, int kind, int cell) {
        if (!mayAsk(finder, kind, cell)) {
            return BAD;
        }
        int why = whyOf(at(finder), kind, cell);
        if (why > 0) {
            return -20 - (why == 4 ? 3 : why);
        }
        if (bodies.size() == 150) {
            return FULL;
        }
        Body b = enter(kind);
        b.keeper = finder;
        b.hidden = today;
        b.cellsFrom.put(24 * today, cell);
        if (kind == 3) {
            b.path.add(cell);
            b.path.addAll(steps);
        }
        steps.clear();
        return b.number;
    }

    private final Map<Integer, List<Integer>> moves = new HashMap<>();

    int move(int box, int cell, int hour) {
        Body b = of(box, 4);
        if (b == null || !cell(cell) || hour < 0 || hour > 23) {
            return BAD;
        }
        int moment = 24 * today + hour;
        List<Integer> moments = moves.computeIfAbsent(box, k -> new ArrayList<>());
        if (b.down >= 0 || moments.stream().anyMatch(m -> m >= moment)
            || logs.stream().anyMatch(l -> l.box == box && l.at >= moment)) {
            return STATE;
        }
        if (moves.values().stream().mapToInt(List::size).sum() == 200) {
            return FULL;
        }
        moments.add(moment);
        b.cellsFrom.put(moment, cell);
        return 1;
    }

    int down(int box) {
        Body b = box(box);
        if (b == null) {
            return BAD;
        }
        if (b.down >= 0) {
            return NOT;
        }
        b.down = today;
        return 1;
    }

    int ofBody(int body, int what) {
        Body b = at(body);
        if (b == null) {
            return VOID;
        }
        List<Integer> all = new ArrayList<>(List.of(b.kind));
        if (b.kind == 7) {
            all.addAll(List.of(b.home, b.since, b.left, own(b)));
        } else if (b.isBox()) {
            all.addAll(List.of(b.keeper, cellOf(b), b.hidden, b.down, lies(b), finds(b), misses(b).size()));
        } else if (b.kind == 6) {
            all.addAll(List.of(where(b, b.tellings.size()), b.tellings.size()));
        }
        return what >= 0 && what < all.size() ? all.get(what) : VOID;
    }

    int liesAt(int box, int day, int hour) {
        Body b = box(box);
        if (b == null || !day(day) || hour < 0 || hour > 23) {
            return BAD;
        }
        return Objects.requireNonNullElse(lay(b, 24 * day + hour), NOT);
    }

    // ---- rules

    int feed(int n, int v) {
        if (n < 1 || n > 4) {
            return BAD;
        }
        if (tape.size() + n > 160) {
            return FULL;
        }
        for (int i = 0; i < n; i++) {
            tape.write(v >>> 8 * i);
        }
        return tape.size();
    }

    private static boolean use(int use) {
        return use >= 0 && use <= 4 || use >= 10 && use <= 19;
    }

    int rule(int use, int day) {
        if (!use(use) || !day(day)) {
            return BAD;
        }
        if (rules.size() == 20) {
            return FULL;
        }
        Text text = new Text(tape.toByteArray());
        tape.reset();
        if (text.fault >= 0) {
            return -100 - text.fault;
        }
        Rule r = new Rule();
        r.use = use;
        r.made = today;
        r.from = day;
        r.text = text;
        rules.add(r);
        return rules.size() - 1;
    }

    int inForce(int use, int d, int k) {
        if (!use(use) || !day(d) || !day(k)) {
            return BAD;
        }
        int latest = NOT;
        for (Rule r : rules) {
            if (r.use == use && r.made <= k && r.from <= d) {
                latest = rules.indexOf(r);
            }
        }
        return latest;
    }

    private Map<String, Integer> names(int d, Body f, Body b, int kind, int cell, int hour) {
        Map<String, Integer> names = new HashMap<>();
        names.put("day", d);
        names.put("kind", kind);
        names.put("hour", hour);
        names.put("own", f == null ? 0 : own(f));
        names.put("since", f == null ? 0 : d - f.since);
        names.put("age", b == null ? 0 : d - b.hidden);
        names.put("finds", b == null ? 0 : finds(b));
        names.put("misses", b == null ? 0 : misses(b).size());
        names.put("home", f == null || cell < 0 ? 0 : far(f.home, cell));
        names.put("paper", f != null && b != null && b.paper != null && b.paper.contains(f.number) ? 1 : 0);
        names.put("mine", f != null && b != null && b.keeper == f.number ? 1 : 0);
        return names;
    }

    private Map<String, Integer> names(int d, Body f, Body b, int hour) {
        return names(d, f, b, b == null ? 0 : b.kind, b == null ? -1 : cellOf(b), hour);
    }

    private int gives(int use, int d, Map<String, Integer> names) {
        int rule = inForce(use, d, today);
        line = -1;
        if (rule < 0) {
            return use == 0 ? 2 : use == 3 || use >= 10 ? 0 : 1;
        }
        int gives = rules.get(rule).text.answer(names);
        line = rules.get(rule).text.line;
        return gives;
    }

    private int near() {
        return Math.min(15, Math.max(0, gives(0, today, names(today, null, null, 0))));
    }

    private int hideGives(Body f, int kind, int cell) {
        return gives(1, today, names(today, f, null, kind, cell, 0));
    }

    int says(int use, int finder, int box, int what) {
        if (what != 0 && what != 1) {
            return VOID;
        }
        Body f = of(finder, 7);
        Body b = box(box);
        int gives;
        if (use == 0 && finder == -1 && box == -1) {
            gives = near();
        } else if (use == 1 && f != null && box >= 1 && box <= 5) {
            gives = hideGives(f, box, -1);
        } else if (use == 3 && finder == -1 && b != null) {
            gives = gives(3, today, names(today, null, b, 0));
        } else if (use == 4 && f != null && b != null) {
            gives = gives(4, today, names(today, f, b, 0));
        } else {
            return VOID;
        }
        return what == 0 ? gives : line;
    }

    int nearest(int finder, int cell) {
        Body f = of(finder, 7);
        if (f == null || !cell(cell)) {
            return BAD;
        }
        return lying().stream().filter(b -> gives(4, today, names(today, f, b, 0)) != 0)
            .mapToInt(b -> far(cellOf(b), cell)).min().orElse(NOT);
    }

    // ---- riddles

    private final Map<Integer, List<int[]>> tellings = new HashMap<>();

    private Body riddleBox(int n) {
        Body b = box(n);
        return b != null && (b.kind == 2 || b.kind == 5) ? b : null;
    }

    int riddle(int box, int shelf, int i, int n) {
        if (riddleBox(box) == null || shelf < 0 || shelf > 5 || n < 1 || n > 8) {
            return BAD;
        }
        if (shelves[shelf] != null && !(shelves[shelf] instanceof long[] && sorts[shelf] == 0)) {
            return -12;
        }
        List<int[]> told = new ArrayList<>();
        tellings.put(box, told);
        long[] row = shelves[shelf] == null ? new long[0] : (long[]) shelves[shelf];
        for (long from = i; i >= 0 && told.size() < n && from + 5 <= row.length; from += 5) {
            int[] five = new int[5];
            for (int k = 0; k < 5; k++) {
                five[k] = (int) row[(int) from + k];
            }
            if (!isTelling(five)) {
                break;
            }
            told.add(five);
        }
        return told.size();
    }

    private static boolean within(int v, int least, int most) {
        return v >= least && v <= most;
    }

    private static boolean isTelling(int[] t) {
        if (t[4] != 0) {
            return false;
        }
        boolean two = within(t[1], 0, 5) && within(t[2], 0, 5);
        switch (t[0]) {
            case 0: return two && within(t[3], 0, 18);
            case 1: return two && within(t[3], 0, 81);
            case 2: return two && within(t[3], -9, 9);
            case 3: return within(t[1], 0, 5) && within(t[3], 0, 9);
            case 4:
            case 5: return within(t[1], 0, 6) && within(t[3], 0, 9);
            default: return false;
        }
    }

    /** SOLUTIONS as pairs of digits and CELL; none at all if x or y is not told. */
    private List<int[]> solutions(int box) {
        int[] x = null, y = null;
        TreeSet<Integer> letters = new TreeSet<>();
        List<int[]> told = tellings.getOrDefault(box, List.of());
        for (int[] t : told) {
            x = t[0] == 4 ? t : x;
            y = t[0] == 5 ? t : y;
            if (t[1] < 6) {
                letters.add(t[1]);
            }
            if (t[0] < 3) {
                letters.add(t[2]);
            }
        }
        if (x == null || y == null) {
            return null;
        }
        List<int[]> all = new ArrayList<>();
        fill(new ArrayList<>(letters), 0, new int[7], new boolean[10], told, new int[][] {x, y}, all);
        all.sort(Comparator.comparingInt(s -> s[0]));
        return all;
    }

    private static void fill(List<Integer> letters, int i, int[] digits, boolean[] used, List<int[]> told, int[][] xy,
            List<int[]> all) {
        if (i < letters.size()) {
            for (int d = 9; d >= 0; d--) {
                if (!used[d]) {
                    used[d] = true;
                    digits[letters.get(i)] = d;
                    fill(letters, i + 1, digits, used, told, xy, all);
                    used[d] = false;
                }
            }
            return;
        }
        for (int[] t : told) {
            int a = digits[t[1]], b = t[0] < 3 ? digits[t[2]] : 0;
            if (t[0] < 4 && (t[0] == 0 ? a + b : t[0] == 1 ? a * b : t[0] == 2 ? a - b : a) != t[3]) {
                return;
            }
        }
        int atX = xy[0][1] == 6 ? xy[0][3] : digits[xy[0][1]] - xy[0][3];
        int atY = xy[1][1] == 6 ? xy[1][3] : digits[xy[1][1]] - xy[1][3];
        if (within(atX, 0, 9) && within(atY, 0, 5)) {
            int number = 0;
            for (int letter : letters) {
                number = 10 * number + digits[letter];
            }
            all.add(new int[] {number, 10 * atY + atX});
        }
    }

    int solve(int box, int i) {
        if (riddleBox(box) == null || i < -1) {
            return BAD;
        }
        List<int[]> all = solutions(box);
        return all == null ? NOT : i == -1 ? all.size() : i < all.size() ? all.get(i)[0] : BAD;
    }

    int solved(int box, int i) {
        if (riddleBox(box) == null || i < 0) {
            return BAD;
        }
        List<int[]> all = solutions(box);
        return all == null ? NOT : i < all.size() ? all.get(i)[1] : BAD;
    }

    long others(int box, int finder) {
        Body b = riddleBox(box);
        if (b == null || of(finder, 7) == null) {
            return Long.MIN_VALUE;
        }
        List<int[]> all = solutions(box);
        if (all == null || b.keeper != finder) {
            return Long.MAX_VALUE;
        }
        long bits = 0;
        for (int[] s : all) {
            bits |= s[1] == cellOf(b) ? 0 : 1L << s[1];
        }
        return bits;
    }

    // ---- logs, paper

    int log(int finder, int box, int at, int found) {
        if (of(finder, 7) == null || box(box) == null || at < 0 || at / 24 > today || found != 0 && found != 1) {
            return BAD;
        }
        if (logs.size() == 300) {
            return FULL;
        }
        Log l = new Log();
        l.number = logs.size();
        l.finder = finder;
        l.box = box;
        l.at = at;
        l.found = found == 1;
        logs.add(l);
        return l.number;
    }

    /** LOGS of a BOX by MOMENTS, of like ones by number. */
    private List<Log> inOrder(Body b) {
        return logs.stream().filter(l -> l.box == b.number)
            .sorted(Comparator.<Log>comparingInt(l -> l.at).thenComparingInt(l -> l.number)).collect(Collectors.toList());
    }

    private int finds(Body b) {
        return (int) inOrder(b).stream().filter(l -> l.found).count();
    }

    private List<Log> misses(Body b) {
        List<Log> behind = new ArrayList<>();
        for (Log l : inOrder(b)) {
            if (l.found) {
                behind.clear();
            } else {
                behind.add(l);
            }
        }
        return behind;
    }

    int paper(int box, int shelf, int i, int n) {
        Body b = box(box);
        if (b == null || shelf < 0 || shelf > 5 || n < 1 || n > 40) {
            return BAD;
        }
        if (shelves[shelf] != null && !(shelves[shelf] instanceof long[] && sorts[shelf] == 1)) {
            return -12;
        }
        b.paper = new ArrayList<>();
        long[] row = shelves[shelf] == null ? new long[0] : (long[]) shelves[shelf];
        for (long k = i; k >= 0 && k < row.length && k < (long) i + n; k++) {
            if (of((int) row[(int) k], 7) == null) {
                break;
            }
            b.paper.add((int) row[(int) k]);
        }
        return b.paper.size();
    }

    int join(int box, int what, int i) {
        Body b = box(box);
        if (b == null || what < 0 || what > 2) {
            return BAD;
        }
        TreeSet<Integer> wire = new TreeSet<>();
        inOrder(b).stream().filter(l -> l.found).forEach(l -> wire.add(l.finder));
        TreeSet<Integer> names = b.paper == null ? new TreeSet<>() : new TreeSet<>(b.paper);
        TreeSet<Integer> part = new TreeSet<>(what == 2 ? names : wire);
        if (what == 0) {
            part.retainAll(names);
        } else {
            part.removeAll(what == 1 ? names : wire);
        }
        return pick(new ArrayList<>(part), i);
    }

    private static int pick(List<Integer> all, int i) {
        return i == -1 ? all.size() : i >= 0 && i < all.size() ? all.get(i) : BAD;
    }

    private boolean counts(Log l, int beside) {
        Map<String, Integer> names = names(l.at / 24, of(l.finder, 7), box(l.box), l.at % 24);
        return (beside >= 0 ? rules.get(beside).text.answer(names) : gives(2, l.at / 24, names)) != 0;
    }

    int first(int box) {
        Body b = box(box);
        if (b == null) {
            return BAD;
        }
        if (b.paper != null && !b.paper.isEmpty()) {
            return b.paper.get(0);
        }
        return inOrder(b).stream().filter(l -> l.found && counts(l, -1)).mapToInt(l -> l.finder).findFirst().orElse(NOT);
    }

    private List<Log> clashes(Log l) {
        return logs.stream().filter(o -> o != l && o.found && o.finder == l.finder && lay(o) != null
            && Math.abs(o.at - l.at) < half(far(lay(o), lay(l)))).collect(Collectors.toList());
    }

    private int whyFalse(Log l) {
        Body b = box(l.box);
        if (!l.found) {
            return 0;
        }
        if (lay(l) == null) {
            return 1;
        }
        if (!clashes(l).isEmpty()) {
            return 2;
        }
        if (b.kind == 5 && within(l.at % 24, 6, 19)) {
            return 3;
        }
        List<Log> row = inOrder(b);
        int place = row.indexOf(l);
        boolean between = place > 0 && place < row.size() - 1 && !row.get(place - 1).found && !row.get(place + 1).found;
        return b.paper != null && !b.paper.contains(l.finder) && between ? 4 : 0;
    }

    int isFalse(int log, int what) {
        if (log < 0 || log >= logs.size() || what != 0 && what != 1) {
            return BAD;
        }
        int which = whyFalse(logs.get(log));
        return what == 0 ? which : which == 2 ? clashes(logs.get(log)).get(0).number : -1;
    }

    int gone(int box, int what) {
        Body b = box(box);
        if (b == null || what < 0 || what > 2) {
            return BAD;
        }
        List<Log> row = inOrder(b);
        List<Log> misses = misses(b);
        int how = Math.min(2, (misses.size() + 1) / 2);
        if (what == 0) {
            return how;
        }
        if (how < 2) {
            return NOT;
        }
        int place = row.size() - misses.size() - 1;
        return what == 2 ? misses.get(0).at : place < 0 ? 24 * b.hidden : row.get(place).at;
    }

    int chance(int what) {
        if (what != 0 && what != 1) {
            return BAD;
        }
        List<Log> all = logs.stream().filter(l -> l.found)
            .filter(l -> logs.stream().filter(o -> o.found && o.finder == l.finder).count() >= 2)
            .collect(Collectors.toList());
        return what == 0 ? all.size() : (int) all.stream().filter(l -> whyFalse(l) == 2).count();
    }

    // ---- things, keepers

    int tell(int thing, int log, int left) {
        Body t = of(thing, 6);
        if (t == null || log < 0 || log >= logs.size() || left != 0 && left != 1 || !logs.get(log).found) {
            return BAD;
        }
        if (t.tellings.size() == 12) {
            return FULL;
        }
        t.tellings.add(new int[] {log, left});
        return t.tellings.size();
    }

    /** Where it is by so many tellings. */
    private int where(Body t, int tellings) {
        if (tellings == 0) {
            return -1;
        }
        int[] last = t.tellings.get(tellings - 1);
        Log l = logs.get(last[0]);
        return last[1] == 1 ? l.box : l.finder;
    }

    int jump(int thing, int i) {
        Body t = of(thing, 6);
        if (t == null) {
            return BAD;
        }
        List<Integer> jumps = new ArrayList<>();
        for (int k = 0; k < t.tellings.size(); k++) {
            Log l = logs.get(t.tellings.get(k)[0]);
            boolean isLeft = t.tellings.get(k)[1] == 1;
            if (k == 0 || where(t, k) != (isLeft ? l.finder : l.box)) {
                jumps.add(k);
            }
        }
        return pick(jumps, i);
    }

    int chain(int thing) {
        Body t = of(thing, 6);
        if (t == null) {
            return BAD;
        }
        List<Integer> cells = t.tellings.stream().filter(s -> s[1] == 1)
            .map(s -> Objects.requireNonNullElse(lay(logs.get(s[0])), -1)).collect(Collectors.toList());
        int all = 0;
        for (int i = 1; i < cells.size(); i++) {
            all += cells.get(i) < 0 || cells.get(i - 1) < 0 ? 0 : far(cells.get(i), cells.get(i - 1));
        }
        return all;
    }

    int asks(int finder, int box) {
        Body f = of(finder, 7);
        Body b = box(box);
        if (f == null || b == null || f.left >= 0 || b.askers.contains(finder)) {
            return BAD;
        }
        if (at(b.keeper).left < 0) {
            return NOT;
        }
        if (b.askers.size() == 8) {
            return FULL;
        }
        b.askers.add(finder);
        return b.askers.size();
    }

    int taker(int box) {
        Body b = box(box);
        if (b == null) {
            return BAD;
        }
        return b.askers.stream().filter(a -> at(a).left < 0 && hideGives(at(a), b.kind, lies(b)) != 0)
            .min(Comparator.<Integer>comparingInt(a -> far(at(a).home, lies(b))).thenComparing(a -> a)).orElse(NOT);
    }

    int take(int box) {
        int taker = taker(box);
        if (taker >= 0) {
            at(box).keeper = taker;
            at(box).askers.clear();
        }
        return taker;
    }

    private List<Integer> allToPut() {
        return lying().stream().filter(b -> gives(3, today, names(today, null, b, 0)) != 0).map(b -> b.number)
            .collect(Collectors.toList());
    }

    int toPut(int i) {
        return pick(allToPut(), i);
    }

    int putAll() {
        List<Integer> all = allToPut();
        all.forEach(b -> at(b).down = today);
        return all.size();
    }

    // ---- walks, ranks

    int wish(int box, int worth, int hours) {
        Body b = box(box);
        if (b == null || b.down >= 0 || !within(worth, 1, 99) || !within(hours, 0, 9)
            || wishes.stream().anyMatch(w -> w[0] == box)) {
            return BAD;
        }
        if (wishes.size() == 7) {
            return FULL;
        }
        wishes.add(new int[] {box, worth, hours});
        return wishes.size();
    }

    /** HOURS of a row of places, hour by hour. */
    private int hoursOf(List<Integer> row, int home, int hour) {
        int now = hour, here = home;
        for (int place : row) {
            int[] w = wishes.get(place);
            Body b = box(w[0]);
            now += half(far(here, lies(b)));
            while (b.kind == 5 && within(now % 24, 6, 19)) {
                now++;
            }
            now += w[2];
            here = lies(b);
        }
        return now + half(far(here, home)) - hour;
    }

    private void rows(List<Integer> row, List<List<Integer>> all) {
        for (int i = 0; i < wishes.size(); i++) {
            if (!row.contains(i)) {
                List<Integer> next = new ArrayList<>(row);
                next.add(i);
                all.add(next);
                rows(next, all);
            }
        }
    }

    private static boolean setOut(int at, int hours) {
        return at >= 0 && cell(at / 24) && hours >= 1 && hours <= 48;
    }

    int walk(int at, int hours) {
        if (!setOut(at, hours)) {
            return BAD;
        }
        List<List<Integer>> all = new ArrayList<>();
        rows(List.of(), all);
        int[] best = null;
        List<Integer> bestRow = null;
        for (List<Integer> row : all) {
            int inAll = hoursOf(row, at / 24, at % 24);
            int[] now = {-row.stream().mapToInt(p -> wishes.get(p)[1]).sum(), inAll};
            int sign = best == null ? -1 : Arrays.compare(now, best);
            if (inAll <= hours && (sign < 0 || sign == 0 && digits(row) < digits(bestRow))) {
                best = now;
                bestRow = row;
            }
        }
        if (best == null) {
            return NOT;
        }
        walkedHours = best[1];
        walked = bestRow.stream().map(p -> wishes.get(p)[0]).collect(Collectors.toList());
        wishes.clear();
        return -best[0];
    }

    /** A row as a number of seven digits: rows stand in the order of these. */
    private static int digits(List<Integer> row) {
        int number = 0;
        for (int i = 0; i < 7; i++) {
            number = 10 * number + (i < row.size() ? row.get(i) + 1 : 0);
        }
        return number;
    }

    int walked(int what) {
        return walked == null ? BAD : what == -1 ? walkedHours : pick(walked, what < -1 ? 99 : what);
    }

    int judge(int at, int hours, int row) {
        List<Integer> places = new ArrayList<>();
        for (char c : String.valueOf(row).toCharArray()) {
            places.add(c - '1');
        }
        boolean good = places.stream().allMatch(p -> p >= 0 && p < wishes.size());
        if (!setOut(at, hours) || !good || new HashSet<>(places).size() < places.size()) {
            return BAD;
        }
        int inAll = hoursOf(places, at / 24, at % 24);
        return inAll <= hours ? inAll : NOT;
    }

    int lookAt(int box, int gone) {
        Body b = box(box);
        if (b == null || gone != 0 && gone != 1) {
            return BAD;
        }
        if (finds(b) > 0 || b.down >= 0 || b.looked >= 0) {
            return NOT;
        }
        b.looked = gone;
        return (int) boxes().stream().filter(o -> o.looked >= 0).count();
    }

    int nobody(int what) {
        List<Body> all = lying().stream().filter(b -> finds(b) == 0).collect(Collectors.toList());
        int n = all.size();
        int c = (int) all.stream().filter(b -> b.looked >= 0).count();
        int w = (int) all.stream().filter(b -> b.looked == 1).count();
        switch (what) {
            case 0: return n;
            case 1: return c;
            case 2: return w;
            case 3: return n > 30 ? BIG : bound(n, c, w);
            default: return BAD;
        }
    }

    private static int bound(int n, int c, int w) {
        int greatest = w;
        for (int gone = w; gone <= n - c + w; gone++) {
            BigInteger ways = BigInteger.ZERO;
            for (int j = 0; j <= w; j++) {
                ways = ways.add(choose(gone, j).multiply(choose(n - gone, c - j)));
            }
            if (ways.multiply(BigInteger.valueOf(100)).compareTo(choose(n, c).multiply(BigInteger.valueOf(5))) >= 0) {
                greatest = gone;
            }
        }
        return greatest;
    }

    private static BigInteger choose(int n, int k) {
        if (k < 0 || k > n) {
            return BigInteger.ZERO;
        }
        BigInteger top = BigInteger.ONE, under = BigInteger.ONE;
        for (int i = 0; i < k; i++) {
            top = top.multiply(BigInteger.valueOf(n - i));
            under = under.multiply(BigInteger.valueOf(i + 1));
        }
        return top.divide(under);
    }

    int rank(int finder, int d, int rule, int what) {
        boolean isRule = rule == -1 || rule >= 0 && rule < rules.size() && rules.get(rule).use == 2;
        if (of(finder, 7) == null || !day(d) || !isRule || what != 0 && what != 1) {
            return BAD;
        }
        Map<Integer, Set<Integer>> finds = new HashMap<>();
        for (Log l : logs) {
            if (l.found && l.at / 24 <= d && counts(l, rule) && whyFalse(l) == 0) {
                finds.computeIfAbsent(l.finder, k -> new HashSet<>()).add(l.box);
            }
        }
        int mine = finds.getOrDefault(finder, Set.of()).size();
        return what == 0 ? mine : 1 + (int) finds.values().stream().filter(s -> s.size() > mine).count();
    }

    // ---- acts, shelves

    int act(int body, int act, int x) {
        trace.clear();
        Body b = at(body);
        if (b == null || act < 0 || act > 3) {
            return 0;
        }
        return run(b, 0, "htfe".charAt(act), x);
    }

    /** Runs an act by the KINDS from the depth-th above its own on. */
    private int run(Body b, int depth, char act, int x) {
        int[] up = UP[b.kind];
        for (int i = depth; i < up.length; i++) {
            int above = i + 1;
            switch ("" + act + up[i]) {
                case "h0": return began(1) + x + b.number;
                case "t0": return began(10) + run(b, 0, 'h', x) * 2;
                case "f0": return began(11) + (x ^ b.number);
                case "e0": return began(2) + run(b, 0, 't', x) - run(b, 0, 'f', 1);
                case "h1": return began(20) + run(b, above, 'h', x) - cellOf(b);
                case "t2": return began(30) + run(b, above, 't', x) + run(b, 0, 'f', 2);
                case "f3": return began(40) + run(b, above, 'f', x) * 3;
                case "h4": return began(50) + (run(b, above, 'h', x) ^ 5);
                case "e4": return began(51) + run(b, above, 'e', x + 1);
                case "f5": return began(60) - run(b, above, 'f', x);
                case "t5": return began(61) + run(b, above, 't', x) - 1;
                case "e6": return began(70) + run(b, above, 'e', x) * 2;
                case "t7": return began(80) + run(b, above, 't', x) + run(b, above, 'f', x);
                default: break;
            }
        }
        throw new IllegalStateException("no body for " + act);
    }

    private int began(int number) {
        trace.add(number);
        return 0;
    }

    int trace(int i) {
        return i == -1 ? BAD : pick(trace.subList(0, Math.min(24, trace.size())), i);
    }

    private static boolean shelf(int shelf) {
        return shelf >= 0 && shelf < 6;
    }

    int keep(int shelf, int body) {
        if (!shelf(shelf) || body != -1 && at(body) == null) {
            return BAD;
        }
        shelves[shelf] = at(body);
        return 1;
    }

    int row(int shelf, int sort, int n) {
        if (!shelf(shelf) || !within(sort, 0, 4) || n > 60) {
            return BAD;
        }
        if (n < 0) {
            return -14;
        }
        shelves[shelf] = new long[n];
        sorts[shelf] = sort;
        return 1;
    }

    private int refusal(int shelf, int i) {
        Object held = shelves[shelf];
        return held == null ? -11 : held instanceof Body ? -12 : i >= 0 && i < ((long[]) held).length ? 0 : -13;
    }

    int put(int shelf, int i, long v) {
        if (!shelf(shelf)) {
            return BAD;
        }
        if (refusal(shelf, i) < 0) {
            return refusal(shelf, i);
        }
        int bits = new int[] {8, 16, 32, 64, 0}[sorts[shelf]];
        ((long[]) shelves[shelf])[i] = bits == 0 ? Long.signum(v) & 1 : v << 64 - bits >> 64 - bits;
        return 1;
    }

    long element(int shelf, int i) {
        return !shelf(shelf) || refusal(shelf, i) < 0 ? Long.MIN_VALUE : ((long[]) shelves[shelf])[i];
    }

    int shift(int shelf, int i, int other, int j, int n) {
        if (!shelf(shelf) || !shelf(other)) {
            return BAD;
        }
        if (shelves[shelf] == null || shelves[other] == null) {
            return -11;
        }
        if (shelves[shelf] instanceof Body || shelves[other] instanceof Body || sorts[shelf] != sorts[other]) {
            return -12;
        }
        long[] from = ((long[]) shelves[shelf]).clone();
        long[] to = (long[]) shelves[other];
        if (n < 0 || i < 0 || j < 0 || (long) i + n > from.length || (long) j + n > to.length) {
            return -13;
        }
        for (int k = 0; k < n; k++) {
            to[j + k] = from[i + k];
        }
        return n;
    }

    int taken(int shelf, int k) {
        if (!shelf(shelf) || k < 0 || k > 7) {
            return BAD;
        }
        if (shelves[shelf] == null) {
            return -11;
        }
        if (!(shelves[shelf] instanceof Body)) {
            return -12;
        }
        Body b = (Body) shelves[shelf];
        return Arrays.stream(UP[b.kind]).anyMatch(u -> u == k) ? b.kind : -12;
    }

    int count(int what) {
        int there = (int) finders().stream().filter(f -> f.left < 0).count();
        List<Integer> all = List.of(bodies.size(), boxes().size(), lying().size(), finders().size(), there, logs.size(),
            rules.size(), tape.size(), today, steps.size());
        return what >= 0 && what < 10 ? all.get(what) : what == 10 ? trace.size() : BAD;
    }

    // ---- what a maker of runs may know

    List<Integer> numbersOf(int kind) {
        List<Integer> all = bodies.stream().filter(b -> kind == 8 ? b.isBox() : b.kind == kind).map(b -> b.number)
            .collect(Collectors.toCollection(ArrayList::new));
        return all.isEmpty() ? Collections.singletonList(0) : all;
    }
}
