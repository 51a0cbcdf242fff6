/** Promises 45 to 52: acts of bodies, THE TRACE, shelves. */
final class ActTests {
    public static void main(String[] args) {
        acts();
        traces();
        actsThatWrap();
        actsOfNone();
        cellOfMoved();
        keep();
        row();
        put();
        element();
        elementsOfSorts();
        shift();
        shiftOverlapping();
        shiftRefused();
        taken();
        Due.end("ActTests");
    }

    private static final int BAD = HillBoxes.BAD;

    /** 0 BODY, 1 FINDER, 2 THING, 3 BOX at 20, 4 RIDDLE at 40, 5 MANY at 55, 6 WANDERING at 0, 7 NIGHT at 9. */
    private static HillBoxes ground() {
        HillBoxes x = new HillBoxes();
        x.body(0);
        x.finder(7);
        x.body(6);
        x.hide(1, 1, 20);
        x.hide(1, 2, 40);
        x.step(58);
        x.hide(1, 3, 55);
        x.hide(1, 4, 0);
        x.hide(1, 5, 9);
        return x;
    }

    private static long[] acts(HillBoxes x, int body, int v) {
        return new long[] {x.act(body, 0, v), x.act(body, 1, v), x.act(body, 2, v), x.act(body, 3, v)};
    }

    private static void acts() {
        HillBoxes x = ground();
        Due.row("BODY", acts(x, 0, 5), 5, 10, 5, 10 - 1);
        Due.row("FINDER", acts(x, 1, 5), 6, 12 + 4, 4, 16 - 0);
        Due.row("THING", acts(x, 2, 5), 7, 14, 7, 2 * (14 - 3));
        Due.row("BOX", acts(x, 3, 5), 8 - 20, -24, 6, -24 - 2);
        Due.row("RIDDLE", acts(x, 4, 5), 9 - 40, -62 + 6, 1, -56 - 5);
        Due.row("MANY", acts(x, 5, 5), 10 - 55, -90, 0, -90 - 12);
        Due.row("WANDERING", acts(x, 6, 5), 11 ^ 5, 28, 3, ((12 ^ 5) * 2) - 7);
        Due.row("NIGHT", acts(x, 7, 5), 12 - 9, 6 - 5 - 1, -2, 0 + 6);
    }

    private static long[] trace(HillBoxes x) {
        int n = x.count(10);
        long[] all = new long[n + 1];
        for (int i = 0; i <= n; i++) {
            all[i] = x.trace(i);
        }
        return all;
    }

    private static void traceOf(HillBoxes x, int body, int act, long... due) {
        x.act(body, act, 3);
        long[] all = new long[due.length + 1];
        System.arraycopy(due, 0, all, 0, due.length);
        all[due.length] = BAD;
        Due.row("TRACE of body " + body + ", act " + act, trace(x), all);
    }

    private static void traces() {
        HillBoxes x = ground();
        traceOf(x, 0, 0, 1);
        traceOf(x, 0, 1, 10, 1);
        traceOf(x, 0, 2, 11);
        traceOf(x, 0, 3, 2, 10, 1, 11);
        traceOf(x, 1, 1, 80, 10, 1, 11);
        traceOf(x, 1, 3, 2, 80, 10, 1, 11, 11);
        traceOf(x, 2, 3, 70, 2, 10, 1, 11);
        traceOf(x, 3, 0, 20, 1);
        traceOf(x, 3, 3, 2, 10, 20, 1, 11);
        traceOf(x, 4, 1, 30, 10, 20, 1, 11);
        traceOf(x, 4, 3, 2, 30, 10, 20, 1, 11, 11);
        traceOf(x, 5, 2, 40, 11);
        traceOf(x, 5, 3, 2, 10, 20, 1, 40, 11);
        traceOf(x, 6, 0, 50, 20, 1);
        traceOf(x, 6, 3, 51, 2, 10, 50, 20, 1, 11);
        traceOf(x, 7, 1, 61, 30, 10, 20, 1, 60, 11);
        traceOf(x, 7, 2, 60, 11);
        traceOf(x, 7, 3, 2, 61, 30, 10, 20, 1, 60, 11, 60, 11);
        Due.be("place -1", x.trace(-1), BAD);
        Due.be("place 24", x.trace(24), BAD);
        Due.be("place MAX", x.trace(Integer.MAX_VALUE), BAD);
    }

    private static void actsThatWrap() {
        HillBoxes x = ground();
        int max = Integer.MAX_VALUE, min = Integer.MIN_VALUE;
        Due.be("hides", x.act(1, 0, max), min);
        Due.be("tells", x.act(0, 1, max), -2);
        Due.be("finds", x.act(7, 2, min + 7), min);
        Due.be("MANY finds", x.act(5, 2, max), (max ^ 5) * 3);
        Due.be("WANDERING ends", x.act(6, 3, max), ((min + 6) ^ 5) * 2 - 7);
    }

    private static void actsOfNone() {
        HillBoxes x = ground();
        int[][] none = {{8, 0}, {-1, 0}, {0, 4}, {0, -1}, {Integer.MIN_VALUE, Integer.MAX_VALUE}};
        for (int[] one : none) {
            x.act(0, 0, 1);
            Due.be("ran", x.count(10), 1);
            Due.be("none", x.act(one[0], one[1], 7), 0);
            Due.be("none ran", x.count(10), 0);
            Due.be("no TRACE", x.trace(0), BAD);
        }
        x.act(0, 3, 1);
        x.body(0);
        x.days(1);
        Due.be("the latest TRACE stays", x.trace(3), 11);
    }

    private static void cellOfMoved() {
        HillBoxes x = ground();
        x.move(6, 33, 23);
        Due.be("where its CELL is now", x.act(6, 0, 1), 1 + 6 - 33 ^ 5);
        x.down(6);
        Due.be("put down", x.act(6, 0, 1), 1 + 6 - 33 ^ 5);
        Due.be("the first CELL of a MANY", x.act(5, 0, 1), 6 - 55);
    }

    private static void keep() {
        HillBoxes x = ground();
        Due.be("SHELF 6", x.keep(6, 0), BAD);
        Due.be("SHELF -1", x.keep(-1, 0), BAD);
        Due.be("no body", x.keep(0, 8), BAD);
        Due.be("body -2", x.keep(0, -2), BAD);
        Due.be("a body", x.keep(0, 7), 1);
        Due.be("refused", x.keep(0, 8), BAD);
        Due.be("it stays", x.taken(0, 0), 5);
        Due.be("another", x.keep(0, 2), 1);
        Due.be("it is there", x.taken(0, 0), 6);
        Due.be("the same one elsewhere", x.keep(5, 2), 1);
        Due.be("nothing", x.keep(0, -1), 1);
        Due.be("nothing is there", x.taken(0, 0), -11);
        Due.be("elsewhere", x.taken(5, 0), 6);
        x.row(0, 0, 3);
        x.keep(0, 1);
        Due.be("a BODY for a ROW", x.put(0, 0, 1), -12);
        x.row(0, 0, 3);
        x.keep(0, -1);
        Due.be("nothing for a ROW", x.put(0, 0, 1), -11);
    }

    private static void row() {
        HillBoxes x = ground();
        Due.be("SHELF 6", x.row(6, 0, 3), BAD);
        Due.be("SHELF -1", x.row(-1, 0, 3), BAD);
        Due.be("sort 5", x.row(0, 5, 3), BAD);
        Due.be("sort -1", x.row(0, -1, 3), BAD);
        Due.be("n 61", x.row(0, 0, 61), BAD);
        Due.be("n -1", x.row(0, 0, -1), -14);
        Due.be("n MIN", x.row(0, 0, Integer.MIN_VALUE), -14);
        Due.be("sort ahead of n", x.row(0, 5, -1), BAD);
        Due.be("shelf ahead of n", x.row(6, 0, -1), BAD);
        Due.be("nothing is there still", x.put(0, 0, 1), -11);
        for (int sort = 0; sort <= 4; sort++) {
            Due.be("sort " + sort, x.row(0, sort, 60), 1);
            Due.be("0 at first", x.element(0, 59), 0);
            Due.be("no place 60", x.put(0, 60, 1), -13);
            x.put(0, 59, 1);
        }
        Due.be("n 0", x.row(0, 0, 0), 1);
        Due.be("no place 0", x.put(0, 0, 1), -13);
        x.row(0, 3, 3);
        x.put(0, 1, 7);
        x.row(0, 3, 3);
        Due.be("0 at first again", x.element(0, 1), 0);
        x.keep(1, 0);
        x.row(1, 0, 1);
        Due.be("a ROW for a BODY", x.taken(1, 0), -12);
    }

    private static void put() {
        HillBoxes x = ground();
        Due.be("SHELF 6", x.put(6, 0, 1), BAD);
        Due.be("SHELF -1", x.put(-1, 0, 1), BAD);
        Due.be("nothing", x.put(0, 0, 1), -11);
        x.keep(0, 0);
        Due.be("a BODY", x.put(0, 0, 1), -12);
        x.row(0, 2, 3);
        Due.be("place -1", x.put(0, -1, 1), -13);
        Due.be("place 3", x.put(0, 3, 1), -13);
        Due.be("place MAX", x.put(0, Integer.MAX_VALUE, 1), -13);
        Due.be("place MIN", x.put(0, Integer.MIN_VALUE, 1), -13);
        Due.be("place 2", x.put(0, 2, 9), 1);
        Due.be("it is there", x.element(0, 2), 9);
        Due.be("not elsewhere", x.element(0, 1), 0);
    }

    /** The host's refusals are no answers of element(): elements may be -11 to -13 themselves. */
    private static void element() {
        HillBoxes x = ground();
        Due.be("SHELF 6", x.element(6, 0), Long.MIN_VALUE);
        Due.be("SHELF -1", x.element(-1, 0), Long.MIN_VALUE);
        Due.be("nothing", x.element(0, 0), Long.MIN_VALUE);
        Due.be("nothing, place -1", x.element(0, -1), Long.MIN_VALUE);
        x.keep(0, 0);
        Due.be("a BODY", x.element(0, 0), Long.MIN_VALUE);
        Due.be("a BODY, place -1", x.element(0, -1), Long.MIN_VALUE);
        for (int sort = 0; sort <= 4; sort++) {
            x.row(0, sort, 3);
            Due.be("place -1", x.element(0, -1), Long.MIN_VALUE);
            Due.be("place 3", x.element(0, 3), Long.MIN_VALUE);
            Due.be("place MAX", x.element(0, Integer.MAX_VALUE), Long.MIN_VALUE);
            Due.be("place MIN", x.element(0, Integer.MIN_VALUE), Long.MIN_VALUE);
            Due.be("place 2", x.element(0, 2), 0);
        }
        Desk.row(x, 0, 3, -11, -12, -13);
        Due.row("elements like refusals", elements(x, 0, 3), -11, -12, -13);
        x.put(0, 0, Long.MIN_VALUE);
        Due.be("the least long", x.element(0, 0), Long.MIN_VALUE);
        x.row(0, 3, 0);
        Due.be("a ROW of none", x.element(0, 0), Long.MIN_VALUE);
        x.row(0, 3, 2);
        x.keep(0, -1);
        Due.be("nothing again", x.element(0, 0), Long.MIN_VALUE);
    }

    private static void elementsOfSorts() {
        HillBoxes x = ground();
        long[] values = {0, 1, -1, 127, 128, 255, 256, 32767, 32768, 65536, 1L << 31, 1L << 32, Long.MIN_VALUE, 2};
        for (int sort = 0; sort <= 4; sort++) {
            x.row(sort, sort, 1);
            for (long v : values) {
                x.put(sort, 0, v);
                long[] kept = {(byte) v, (short) v, (int) v, v, v == 0 ? 0 : 1};
                Due.be(v + " of sort " + sort, x.element(sort, 0), kept[sort]);
            }
        }
    }

    private static long[] elements(HillBoxes x, int shelf, int n) {
        long[] all = new long[n];
        for (int i = 0; i < n; i++) {
            all[i] = x.element(shelf, i);
        }
        return all;
    }

    private static void shift() {
        HillBoxes x = ground();
        Desk.row(x, 0, 2, 1, 2, 3, 4);
        Desk.row(x, 1, 2, 5, 6, 7);
        Due.be("shift", x.shift(0, 1, 1, 0, 2), 2);
        Due.row("it came", elements(x, 1, 4), 2, 3, 7, Long.MIN_VALUE);
        Due.row("it stays", elements(x, 0, 4), 1, 2, 3, 4);
        Due.be("all", x.shift(1, 0, 0, 1, 3), 3);
        Due.row("all came", elements(x, 0, 4), 1, 2, 3, 7);
        Due.be("none", x.shift(0, 4, 1, 3, 0), 0);
        Due.be("none of the first", x.shift(0, 0, 1, 0, 0), 0);
        for (int sort = 0; sort <= 4; sort++) {
            Desk.row(x, 2, sort, 1, 0, 1);
            Desk.row(x, 3, sort, 0, 1, 0);
            Due.be("of sort " + sort, x.shift(2, 0, 3, 1, 2), 2);
            Due.row("of sort " + sort, elements(x, 3, 3), 0, 1, 0);
        }
    }

    private static void shiftOverlapping() {
        HillBoxes x = ground();
        Desk.row(x, 0, 3, 1, 2, 3, 4, 5);
        Due.be("on", x.shift(0, 0, 0, 1, 4), 4);
        Due.row("as they all were before", elements(x, 0, 5), 1, 1, 2, 3, 4);
        Due.be("back", x.shift(0, 1, 0, 0, 4), 4);
        Due.row("as they all were before, back", elements(x, 0, 5), 1, 2, 3, 4, 4);
        Due.be("to itself", x.shift(0, 0, 0, 0, 5), 5);
        Due.row("to itself", elements(x, 0, 5), 1, 2, 3, 4, 4);
    }

    private static void shiftRefused() {
        HillBoxes x = ground();
        Desk.row(x, 0, 2, 1, 2, 3, 4);
        Desk.row(x, 1, 2, 5, 6, 7);
        Desk.row(x, 2, 1, 5, 6, 7);
        x.keep(3, 0);
        Due.be("SHELF 6", x.shift(6, 0, 0, 0, 1), BAD);
        Due.be("to SHELF 6", x.shift(0, 0, 6, 0, 1), BAD);
        Due.be("SHELF -1", x.shift(-1, 0, 0, 0, 1), BAD);
        Due.be("to SHELF -1, from nothing", x.shift(4, 0, -1, 0, 1), BAD);
        Due.be("from nothing", x.shift(4, 0, 0, 0, 1), -11);
        Due.be("to nothing", x.shift(0, 0, 4, 0, 1), -11);
        Due.be("from a BODY to nothing", x.shift(3, 0, 4, 0, 1), -11);
        Due.be("from a BODY", x.shift(3, 0, 0, 0, 1), -12);
        Due.be("to a BODY", x.shift(0, 0, 3, 0, 1), -12);
        Due.be("of unlike sorts", x.shift(0, 0, 2, 0, 1), -12);
        Due.be("of unlike sorts ahead of places", x.shift(0, -1, 2, 0, 1), -12);
        int[][] no = {{-1, 0, 1}, {0, -1, 1}, {0, 0, -1}, {0, 0, 4}, {4, 0, 1}, {0, 3, 1}, {5, 0, 0}, {0, 4, 0},
            {-1, 0, 0}, {0, -1, 0}, {Integer.MAX_VALUE, 0, 1}, {0, Integer.MAX_VALUE, Integer.MAX_VALUE},
            {1, 1, Integer.MAX_VALUE}, {0, 0, Integer.MIN_VALUE}, {Integer.MIN_VALUE, 0, 1}, {3, 0, 2}, {0, 2, 2}};
        for (int[] one : no) {
            Due.be("from " + one[0] + " to " + one[1] + ", " + one[2], x.shift(0, one[0], 1, one[1], one[2]), -13);
        }
        Due.row("nothing is changed", elements(x, 1, 3), 5, 6, 7);
    }

    private static void taken() {
        HillBoxes x = ground();
        Due.be("SHELF 6", x.taken(6, 0), BAD);
        Due.be("SHELF -1", x.taken(-1, 0), BAD);
        Due.be("nothing", x.taken(0, 0), -11);
        Due.be("KIND 8 of nothing", x.taken(0, 8), BAD);
        Due.be("KIND -1 of nothing", x.taken(0, -1), BAD);
        x.row(0, 0, 1);
        Due.be("a ROW", x.taken(0, 0), -12);
        int[] kinds = {0, 7, 6, 1, 2, 3, 4, 5};
        int[] under = {1, 1 | 1 << 7, 1 | 1 << 6, 1 | 1 << 1, 1 | 1 << 1 | 1 << 2, 1 | 1 << 1 | 1 << 3,
            1 | 1 << 1 | 1 << 4, 1 | 1 << 1 | 1 << 2 | 1 << 5};
        for (int body = 0; body < 8; body++) {
            x.keep(1, body);
            for (int k = 0; k < 8; k++) {
                Due.be("KIND " + kinds[body] + " taken for " + k, x.taken(1, k),
                    (under[body] >> k & 1) != 0 ? kinds[body] : -12);
            }
        }
    }
}
