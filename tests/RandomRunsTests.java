import java.lang.reflect.Method;
import java.util.List;
import java.util.Map;
import java.util.TreeMap;

/** Runs of 512 calls, drawn by a fixed row of numbers, on the class and on the model side by side. */
final class RandomRunsTests {
    private static final int RUNS = 1500, CALLS = 512;

    /** Of each method, what its arguments are drawn as; see draw(). */
    private static final String[] FACE = {
        "days:N", "owner:co", "body:K", "finder:c", "leaves:f", "step:c", "why:fkcw", "hide:fkc", "move:bch", "down:b",
        "ofBody:aw", "liesAt:bdh", "feed:nx", "rule:ud", "inForce:udd", "says:uSSw", "nearest:fc", "riddle:bspn",
        "solve:bi", "solved:bi", "others:bf", "log:fbmz", "paper:bspP", "join:bwi", "first:b", "isFalse:lz", "gone:bw",
        "chance:z", "tell:tlz", "jump:ti", "chain:t", "asks:fb", "taker:b", "take:b", "toPut:i", "putAll:", "wish:bWh",
        "walk:gH", "walked:i", "judge:gHj", "lookAt:bz", "nobody:w", "rank:fdrz", "act:awx", "trace:i", "keep:sa",
        "row:sqn", "put:spv", "element:sp", "shift:spspn", "taken:sk", "count:i"
    };

    private static final Map<String, Method> OURS = new TreeMap<>();
    private static final Map<String, Method> THEIRS = new TreeMap<>();

    private long seed;
    private HillBoxes x;
    private Model model;
    private int calls;
    private final StringBuilder told = new StringBuilder();
    private int today;
    private boolean agrees = true;
    /** One argument in so many is drawn from those at the bounds of something. */
    private int tameness = 40;

    public static void main(String[] args) throws Exception {
        for (String face : FACE) {
            String name = face.substring(0, face.indexOf(':'));
            OURS.put(name, methodOf(HillBoxes.class, name));
            THEIRS.put(name, methodOf(Model.class, name));
            THEIRS.get(name).setAccessible(true);
        }
        int failed = 0;
        int runs = args.length > 0 ? Integer.parseInt(args[0]) : RUNS;
        int first = args.length > 1 ? Integer.parseInt(args[1]) : 0;
        for (int run = first; run < first + runs && failed < 5; run++) {
            failed += new RandomRunsTests().runOne(run) ? 0 : 1;
        }
        System.out.println("RandomRunsTests: " + runs + " runs, " + failed + " not alike");
        if (failed > 0) {
            System.exit(1);
        }
    }

    private static Method methodOf(Class<?> of, String name) {
        for (Method m : of.getDeclaredMethods()) {
            boolean isFace = !java.lang.reflect.Modifier.isPrivate(m.getModifiers());
            if (m.getName().equals(name) && isFace) {
                return m;
            }
        }
        throw new IllegalStateException("no " + name);
    }

    private int next(int bound) {
        seed = seed * 6364136223846793005L + 1442695040888963407L;
        return (int) ((seed >>> 33) % bound);
    }

    private boolean runOne(int run) throws Exception {
        seed = run * 7919L + 17;
        next(2);
        x = new HillBoxes();
        model = new Model();
        int kind = run % 10;
        tameness = kind == 8 ? 4 : 40;
        people(kind);
        if (kind == 9) {
            fill(next(6));
        }
        while (calls < CALLS && agrees) {
            step(kind);
        }
        if (!agrees) {
            System.out.println("run " + run + " (" + calls + " calls): " + told);
        }
        return agrees;
    }

    private void people(int kind) throws Exception {
        for (int i = 0; i < 2 + next(4); i++) {
            call("finder", next(60));
        }
        call("body", 6);
        for (int i = 0; kind == 0 && i < 20; i++) {
            call("owner", next(60), next(3));
        }
        if (next(2) == 0) {
            feedRule(next(2) == 0 ? "1" : "0", 0, 0);
        }
        for (int i = 0; i < 3 + next(kind == 5 ? 40 : kind == 4 ? 12 : 6); i++) {
            if (next(4) == 0) {
                call("step", next(60));
                call("step", next(60));
                call("hide", pick(7), 3, next(60));
            } else {
                call("hide", pick(7), 1 + next(5), next(60));
            }
            if (next(4) == 0) {
                call("days", 1 + next(2));
            }
        }
    }

    /** One call or a few: what a run of a kind is about comes in most of them. */
    private void step(int kind) throws Exception {
        int die = next(10);
        if (die < 3) {
            drawn(FACE[next(FACE.length)]);
        } else if (kind == 0) {
            rules(die);
        } else if (kind == 1) {
            riddles(die);
        } else if (kind == 2 || kind == 3) {
            logs(die, kind == 3);
        } else if (kind == 4) {
            walks(die);
        } else if (kind == 5) {
            ranks(die);
        } else if (kind == 6) {
            things(die);
        } else if (kind == 7) {
            shelves(die);
        } else if (kind == 8) {
            drawn(FACE[next(FACE.length)]);
        } else {
            fullOnes();
        }
    }

    /** Fills something up to a few less than it holds. */
    private void fill(int what) throws Exception {
        int spare = next(4);
        if (what == 0) {
            for (int i = model.count(0); i < 150 - spare; i++) {
                call("body", 6 * next(2));
            }
        } else if (what == 1) {
            for (int i = 0; i < 300 - spare; i++) {
                call("log", pick(7), pick(8), next(24 * (today + 1)), next(2));
            }
        } else if (what == 2) {
            call("hide", pick(7), 4, next(60));
            for (int i = 0; i < 200 - spare; i++) {
                if (i % 24 == 0) {
                    call("days", 1);
                }
                call("move", pick(4), next(60), i % 24);
            }
        } else if (what == 3) {
            for (int i = 0; i < 20 - spare; i++) {
                feedRule("" + next(9), next(5), next(3));
            }
        } else if (what == 4) {
            for (int i = 0; i < 160 / 4 - spare; i++) {
                call("feed", 4, next(2) == 0 ? 0x20203b31 : 0x302b3120);
            }
        } else {
            things(9);
            for (int i = 0; i < 12 - spare; i++) {
                call("log", pick(7), pick(8), next(24 * (today + 1)), 1);
                call("tell", pick(6), next(Math.max(1, model.count(5))), next(2));
            }
        }
    }

    /** What may be full, and what is asked of it. */
    private void fullOnes() throws Exception {
        drawn(List.of("body:K", "finder:c", "step:c", "hide:fkc", "move:bch", "log:fbmz", "rule:ud", "feed:nx", "tell:tlz",
            "asks:fb", "leaves:f", "wish:bWh", "isFalse:lz", "gone:bw", "join:bwi", "jump:ti", "chain:t", "rank:fdrz",
            "chance:z", "liesAt:bdh", "ofBody:aw", "count:i", "inForce:udd", "act:awx", "first:b", "days:N")
            .get(next(26)));
    }

    private void rules(int die) throws Exception {
        if (die < 5) {
            feedRule(text(), next(2) == 0 ? next(5) : 10 + next(3), next(3) == 0 ? next(1000) : next(today + 2));
        } else if (die < 6) {
            feedRule(spoiled(text()), next(5), 0);
        } else if (die < 8) {
            saysOfAll();
        } else if (next(2) == 0) {
            call("step", next(60));
            call("why", pick(7), 1 + next(5), next(60), next(2));
            call("hide", pick(7), 1 + next(5), next(60));
        } else {
            drawn(List.of("why:fkcw", "hide:fkc", "nearest:fc", "toPut:i", "inForce:udd", "first:b", "rank:fdrz",
                "taker:b").get(next(8)));
        }
    }

    private void saysOfAll() throws Exception {
        int what = next(2);
        call("says", 0, -1, -1, what);
        call("says", 1, pick(7), 1 + next(5), what);
        call("says", 3, -1, pick(8), what);
        call("says", 4, pick(7), pick(8), what);
        drawn("says:uSSw");
    }

    private void riddles(int die) throws Exception {
        if (die < 6) {
            int b = pick(next(3) == 0 ? 5 : 2);
            int n = 1 + next(8);
            call("row", 5, 0, 5 * n + next(3));
            int letters = 1 + next(6);
            for (int i = 0; i < n; i++) {
                int sort = i < 2 ? 4 + i : next(8) == 0 ? 4 + next(2) : next(4);
                int[] most = {18, 81, 9, 9, 9, 9};
                five(5 * i, sort, next(sort > 3 && next(4) == 0 ? 7 : letters), next(letters),
                    sort > 3 && next(3) > 0 ? next(3) : sort == 1 ? next(9) * next(9) : next(most[sort] + 1));
            }
            if (next(10) == 0) {
                call("put", 5, next(5 * n), next(256));
            }
            call("riddle", b, 5, next(12) == 0 ? next(5) - 2 : 0, n);
            call("solve", b, -1);
            int i = next(30) - 1;
            call("solve", b, i);
            call("solved", b, i);
            call("others", b, pick(7));
        } else {
            drawn(List.of("solve:bi", "solved:bi", "others:bf", "riddle:bspn").get(next(4)));
        }
    }

    private void five(int from, int... bytes) throws Exception {
        for (int k = 0; k < 4; k++) {
            call("put", 5, from + k, bytes[k]);
        }
    }

    private void logs(int die, boolean ofFew) throws Exception {
        if (die < 7) {
            int box = ofFew ? model.numbersOf(8).get(0) : pick(8);
            int at = Math.max(0, 24 * (today + 1) - 1 - next(ofFew ? 30 : 90));
            call("log", pick(7), box, at, next(3) > 0 ? 1 : 0);
        } else if (die < 8) {
            int n = next(5);
            call("row", 4, 1, n);
            for (int i = 0; i < n; i++) {
                call("put", 4, i, pick(7));
            }
            call("paper", ofFew ? model.numbersOf(8).get(0) : pick(8), 4, 0, 1 + next(5));
        } else {
            drawn(List.of("join:bwi", "first:b", "isFalse:lz", "gone:bw", "chance:z", "move:bch", "ofBody:aw", "down:b",
                "rank:fdrz", "isFalse:lz", "isFalse:lz").get(next(11)));
        }
    }

    private void walks(int die) throws Exception {
        if (die < 6) {
            drawn("wish:bWh");
        } else if (die < 7) {
            drawn("walk:gH");
            call("walked", -1);
            for (int i = 0; i < 4; i++) {
                call("walked", i);
            }
        } else if (die < 9) {
            drawn("judge:gHj");
        } else {
            drawn(next(2) == 0 ? "move:bch" : "hide:fkc");
        }
    }

    private void ranks(int die) throws Exception {
        if (die < 5) {
            logs(next(8), false);
        } else if (die < 6) {
            feedRule(text(), 2, next(today + 2));
        } else if (die < 7) {
            drawn("lookAt:bz");
        } else {
            drawn(List.of("rank:fdrz", "nobody:w", "rank:fdrz", "chance:z", "nobody:w").get(next(5)));
        }
    }

    private void things(int die) throws Exception {
        if (die < 5) {
            logs(next(8), false);
        } else if (die < 8) {
            drawn(List.of("tell:tlz", "tell:tlz", "tell:tlz", "jump:ti", "chain:t", "ofBody:aw").get(next(6)));
        } else {
            if (next(8) == 0) {
                call("finder", next(60));
            }
            drawn(List.of("asks:fb", "asks:fb", "taker:b", "take:b", "leaves:f", "finder:c", "toPut:i", "putAll:")
                .get(next(next(6) == 0 ? 8 : 6)));
        }
    }

    private void shelves(int die) throws Exception {
        if (die < 5) {
            drawn("act:awx");
            call("count", 10);
            call("trace", next(12));
        } else {
            drawn(List.of("keep:sa", "row:sqn", "put:spv", "element:sp", "shift:spspn", "taken:sk").get(next(6)));
        }
    }

    // ---- texts

    private String text() {
        StringBuilder text = new StringBuilder();
        for (int lines = 1 + next(3); lines > 0; lines--) {
            if (next(2) == 0) {
                text.append(next(2) == 0 ? "if " : "unless ").append(either(2)).append(':');
            }
            text.append(either(2)).append(lines > 1 ? ";" : "");
        }
        return text.length() <= 160 ? text.toString() : "day";
    }

    private String either(int depth) {
        String[] names = {"day", "kind", "own", "since", "age", "finds", "misses", "hour", "home", "paper", "mine"};
        int die = depth <= 0 ? next(4) : next(12);
        if (die < 2) {
            return "" + next(next(4) == 0 ? 100000 : 6);
        }
        if (die < 5) {
            return names[next(11)];
        }
        if (die < 6) {
            return next(2) == 0 ? "not " + either(depth - 1) : "-" + names[next(11)];
        }
        if (die < 8) {
            return "(" + either(depth - 1) + ")";
        }
        String[] signs = {" or ", " and ", "<", "=", ">", "+", "-", "*", "/", "%"};
        return either(depth - 1) + signs[next(10)] + either(depth - 1);
    }

    private String spoiled(String text) {
        String[] bits = {"(", ")", "-", "not ", "if ", ":", ";", " or ", "7", "123456", "day", "x", "<", " ", "@", "="};
        String all = text;
        for (int i = next(4); i >= 0; i--) {
            int place = next(all.length() + 1);
            int cut = next(2) == 0 ? Math.min(all.length(), place + 1) : place;
            all = all.substring(0, place) + bits[next(bits.length)] + all.substring(cut);
        }
        return all.length() <= 160 ? all : "((((((((";
    }

    private void feedRule(String text, int use, int day) throws Exception {
        for (int i = 0; i < text.length(); i += 4) {
            int n = Math.min(4, text.length() - i);
            int v = next(2) == 0 ? 0 : -1 << 8 * (n & 3) & (n < 4 ? -1 : 0);
            for (int k = 0; k < n; k++) {
                v |= text.charAt(i + k) << 8 * k;
            }
            call("feed", n, v);
        }
        call("rule", use, day);
    }

    // ---- drawing and calling

    private int pick(int kind) {
        List<Integer> all = model.numbersOf(kind);
        return all.get(next(all.size()));
    }

    private void drawn(String face) throws Exception {
        int colon = face.indexOf(':');
        String letters = face.substring(colon + 1);
        long[] args = new long[letters.length()];
        for (int i = 0; i < args.length; i++) {
            args[i] = next(tameness) == 0 ? wild() : draw(letters.charAt(i));
        }
        call(face.substring(0, colon), args);
    }

    private int wild() {
        int[] all = {-1, -2, 0, 1, 2, 3, 4, 5, 6, 7, 8, 9, 10, 12, 19, 20, 23, 24, 39, 40, 41, 48, 49, 59, 60, 61, 99, 100,
            101, 149, 150, 199, 299, 300, 999, 1000, 1439, 1440, 24 * today + 23, 24 * today + 24, Integer.MAX_VALUE,
            Integer.MIN_VALUE, Integer.MAX_VALUE - 4};
        return all[next(all.length)];
    }

    private long draw(char c) {
        switch (c) {
            case 'N': return next(8) == 0 ? 1 + next(100) : 1 + next(3);
            case 'c': return next(60);
            case 'o': return next(11) - 1;
            case 'K': return next(2) * 6;
            case 'f': return pick(7);
            case 'b': return next(2) == 0 ? pick(8) : pick(1 + next(5));
            case 't': return pick(6);
            case 'k': return next(6);
            case 'w': return next(4);
            case 'h': return next(24);
            case 'z': return next(2);
            case 'a': return next(20);
            case 'd': return next(3) == 0 ? next(1000) : next(today + 2);
            case 'n': return next(12);
            case 'x': return next(2) == 0 ? next(100) - 50 : next(Integer.MAX_VALUE) * 2;
            case 'u': return next(3) == 0 ? 10 + next(10) : next(5);
            case 'S': return next(3) == 0 ? -1 : next(2) == 0 ? pick(7) : pick(8);
            case 's': return next(6);
            case 'p': return next(8) - 1;
            case 'P': return 1 + next(40);
            case 'i': return next(6) - 1;
            case 'm': return next(24 * (today + 1));
            case 'l': return next(Math.max(1, model.count(5)));
            case 'W': return 1 + next(99);
            case 'g': return next(1440);
            case 'H': return 1 + next(48);
            case 'j': return row();
            case 'r': return next(2) == 0 ? -1 : next(Math.max(1, model.count(6)));
            case 'q': return next(5);
            case 'v': return (long) next(Integer.MAX_VALUE) << next(40) >> next(40);
            default: throw new IllegalStateException("" + c);
        }
    }

    private int row() {
        int row = 0;
        for (int i = 1 + next(4); i > 0; i--) {
            row = 10 * row + 1 + next(6);
        }
        return row;
    }

    private void call(String name, long... args) throws Exception {
        if (calls >= CALLS || !agrees) {
            return;
        }
        calls++;
        long ours = answer(OURS.get(name), x, args);
        long theirs = answer(THEIRS.get(name), model, args);
        told.append(name).append(java.util.Arrays.toString(args)).append('=').append(ours).append(' ');
        if (ours != theirs) {
            agrees = false;
            System.out.println(name + java.util.Arrays.toString(args) + " answered " + ours + ", the model " + theirs);
        }
        today = model.count(8);
    }

    private static long answer(Method m, Object on, long[] args) throws Exception {
        Class<?>[] types = m.getParameterTypes();
        Object[] given = new Object[args.length];
        for (int i = 0; i < args.length; i++) {
            if (types[i] == long.class) {
                given[i] = args[i];
            } else {
                given[i] = (int) args[i];
            }
        }
        return ((Number) m.invoke(on, given)).longValue();
    }
}
