/** Sections 7 (ACTS) and 8 of the document, a sentence a test: where acts, shelves, rows and refusals begin and end. */
final class ShelfEdgesTests {
    private static final int BAD = HillBoxes.BAD, NOTHING = -11, OTHER = -12, NO_PLACE = -13, BELOW_0 = -14;
    private static final int MAX = Integer.MAX_VALUE, MIN = Integer.MIN_VALUE;

    public static void main(String[] args) {
        constants();
        actsAre0To3();
        noSuchBodyOrAct();
        anIntThatWraps();
        nItsNumber();
        bodiesOfActs();
        theNextKindAbove();
        whereItsFirstCellIsNow();
        theTraceAsTheyBegan();
        theLatestActAlone();
        traceIsRefused();
        shelvesAre0To5();
        nothingAtFirst();
        keepABodyOrNothing();
        sortsAre0To4();
        zeroTo60Elements();
        zeroAtFirst();
        itsLowestBits();
        aBooleanIsWhetherItIsNot0();
        putIsRefusedInOrder();
        elementHasOneRefusal();
        shiftWithinARow();
        shiftToAnotherRow();
        shiftToTheVeryEnd();
        shiftOfNone();
        shiftIsRefusedInOrder();
        shiftOfABodyIntoEachSort();
        takenForAKindOrUnderIt();
        takenIsRefusedInOrder();
        whatAShelfHeldIsGone();
        aShelfHoldsTheBodyItself();
        Due.end("ShelfEdgesTests");
    }

    private static void constants() {
        Due.row("constants", new long[] {HillBoxes.BAD, HillBoxes.NOT, HillBoxes.FULL, HillBoxes.BIG, HillBoxes.STATE,
            HillBoxes.VOID}, -1, -2, -3, -4, -5, -2000000000);
    }

    /** 0 BODY, 1 FINDER, 2 THING, 3 BOX at 20, 4 RIDDLE at 40, 5 MANY at 55, 6 WANDERING at 0, 7 NIGHT at 9. */
    private static HillBoxes ground() {
        HillBoxes x = new HillBoxes();
        x.body(0);
        x.finder(7);
        x.body(6);
        x.hide(1, 1, 20);
        x.hide(1, 2, 40);
        x.step(58);
        x.hide(1, 3, 55);
        x.hide(1, 4, 0);
        x.hide(1, 5, 9);
        return x;
    }

    // ---- ACTS

    /** "An ACT (0 .. 3) of a BODY with x". */
    private static void actsAre0To3() {
        HillBoxes x = ground();
        int[] acts = {MIN, -1, 0, 1, 2, 3, 4, MAX};
        int[] due = {0, 0, 9, 18, 9, 18 - 1, 0, 0};
        int[] ran = {0, 0, 1, 2, 1, 4, 0, 0};
        for (int k = 0; k < acts.length; k++) {
            Due.be("act " + acts[k], x.act(0, acts[k], 9), due[k]);
            Due.be("bodies that ran in act " + acts[k], x.count(10), ran[k]);
        }
    }

    /** "0, and no TRACE then: no such BODY, ACT". */
    private static void noSuchBodyOrAct() {
        int[][] none = {{-1, 0}, {8, 0}, {149, 0}, {150, 0}, {MAX, 0}, {MIN, 0}, {0, -1}, {0, 4}, {7, MIN}, {8, 4}};
        for (int[] one : none) {
            HillBoxes x = ground();
            x.act(7, 3, 5);
            Due.be("ran ahead of it", x.count(10), 10);
            Due.be("act of " + one[0] + ", " + one[1], x.act(one[0], one[1], 5), 0);
            Due.be("ran in it", x.count(10), 0);
            Due.be("no TRACE", x.trace(0), BAD);
        }
        HillBoxes empty = new HillBoxes();
        Due.be("no bodies at all", empty.act(0, 0, 5), 0);
        // an act that gives 0 has a TRACE
        HillBoxes x = ground();
        Due.be("0 of a body", x.act(0, 0, 0), 0);
        Due.be("it ran", x.count(10), 1);
    }

    /** "x (an int that wraps)". */
    private static void anIntThatWraps() {
        HillBoxes x = ground();
        Due.be("hides", x.act(1, 0, MAX), MIN);
        Due.be("hides, down", x.act(3, 0, MIN), MAX - 16);
        Due.be("tells", x.act(0, 1, 1 << 30), MIN);
        Due.be("tells to 0", x.act(0, 1, MIN), 0);
        Due.be("finds", x.act(1, 2, MIN), MIN + 1);
        Due.be("finds of a MANY", x.act(5, 2, MIN), (MIN ^ 5) * 3);
        Due.be("finds of a NIGHT one", x.act(7, 2, MIN + 7 ^ 14), -(MIN + 7 ^ 14 ^ 7));
        Due.be("finds of a NIGHT one: the least int", x.act(7, 2, MIN ^ 7), MIN);
        Due.be("ends", x.act(0, 3, MIN), -1);
        Due.be("ends of a THING", x.act(2, 3, MAX), ((MAX + 2) * 2 - (1 ^ 2)) * 2);
        Due.be("ends of a WANDERING one", x.act(6, 3, MAX), ((MIN + 6) ^ 5) * 2 - (1 ^ 6));
    }

    /** "n its number". */
    private static void nItsNumber() {
        HillBoxes x = new HillBoxes();
        for (int i = 0; i < 150; i++) {
            x.body(i % 2 * 6);
        }
        for (int i = 0; i < 150; i += 149) {
            Due.be("hides of " + i, x.act(i, 0, 1000), 1000 + i);
            Due.be("finds of " + i, x.act(i, 2, 1000), 1000 ^ i);
        }
    }

    private static void acts(HillBoxes x, int body, int v, long... due) {
        Due.row("acts of " + body + " with " + v,
            new long[] {x.act(body, 0, v), x.act(body, 1, v), x.act(body, 2, v), x.act(body, 3, v)}, due);
    }

    /** "BODIES of acts", each worked by hand with 0 and with -1. */
    private static void bodiesOfActs() {
        HillBoxes x = ground();
        acts(x, 0, 0, 0, 0, 0, -1);
        acts(x, 1, 0, 1, 2 + 1, 1, 3);
        acts(x, 2, 0, 2, 4, 2, 2);
        acts(x, 3, 0, -17, -34, 3, -34 - 2);
        acts(x, 4, 0, -36, -72 + 6, 4, -66 - 5);
        acts(x, 5, 0, -50, -100, 15, -100 - 12);
        acts(x, 6, 0, 6 ^ 5, 6, 6, (7 ^ 5) * 2 - 7);
        acts(x, 7, 0, -2, -4 - 5 - 1, -7, -10 + 6);
        acts(x, 0, -1, -1, -2, -1, -3);
        acts(x, 1, -1, 0, -2, -2, -2);
        acts(x, 6, -1, 5 ^ 5, 0, -1 ^ 6, (6 ^ 5) * 2 - 7);
        acts(x, 7, -1, -3, -6 - 5 - 1, -(-1 ^ 7), -12 + 6);
    }

    /** "the body of its own KIND, or of the next KIND above that has one; super: from the KIND above the body's on". */
    private static void theNextKindAbove() {
        HillBoxes x = ground();
        int[][] traces = {
            {0, 3, 2, 10, 1, 11}, {1, 1, 80, 10, 1, 11}, {1, 3, 2, 80, 10, 1, 11, 11}, {2, 3, 70, 2, 10, 1, 11},
            {3, 0, 20, 1}, {3, 1, 10, 20, 1}, {3, 2, 11}, {4, 1, 30, 10, 20, 1, 11}, {4, 3, 2, 30, 10, 20, 1, 11, 11},
            {5, 2, 40, 11}, {5, 3, 2, 10, 20, 1, 40, 11}, {6, 0, 50, 20, 1}, {6, 1, 10, 50, 20, 1},
            {6, 3, 51, 2, 10, 50, 20, 1, 11}, {7, 0, 20, 1}, {7, 1, 61, 30, 10, 20, 1, 60, 11}, {7, 2, 60, 11},
            {7, 3, 2, 61, 30, 10, 20, 1, 60, 11, 60, 11}
        };
        for (int[] one : traces) {
            x.act(one[0], one[1], 5);
            Due.be("ran", x.count(10), one.length - 2);
            for (int i = 2; i < one.length; i++) {
                Due.be("body " + one[0] + ", act " + one[1] + ", place " + (i - 2), x.trace(i - 2), one[i]);
            }
            Due.be("behind the last", x.trace(one.length - 2), BAD);
        }
    }

    /** "(CELL: where a BOX's first CELL is now.)". */
    private static void whereItsFirstCellIsNow() {
        HillBoxes x = ground();
        Due.be("a MANY: its first CELL", x.act(5, 0, 0), 5 - 55);
        Due.be("a WANDERING one", x.act(6, 0, 0), 6 ^ 5);
        x.move(6, 59, 23);
        Due.be("a WANDERING one that was moved", x.act(6, 0, 0), 6 - 59 ^ 5);
        x.down(6);
        x.days(1);
        Due.be("one that is PUT DOWN", x.act(6, 0, 0), 6 - 59 ^ 5);
    }

    /** "numbers of the bodies that ran in the latest act(), as they began; the first 24 are kept". */
    private static void theTraceAsTheyBegan() {
        HillBoxes x = ground();
        for (int body = 0; body < 8; body++) {
            for (int act = 0; act < 4; act++) {
                x.act(body, act, 7);
                int n = x.count(10);
                Due.be("all that ran are kept", x.trace(n - 1) > 0 ? 1 : 0, 1);
                Due.be("behind the last", x.trace(n), BAD);
            }
        }
        Due.be("place 23", x.trace(23), BAD);
        Due.be("place 24", x.trace(24), BAD);
    }

    /** "the latest act()": what stands behind it from a longer one is none of it. */
    private static void theLatestActAlone() {
        HillBoxes x = ground();
        x.act(7, 3, 1);
        x.act(0, 0, 1);
        Due.be("ran", x.count(10), 1);
        Due.be("the only one", x.trace(0), 1);
        Due.be("the second of the one ahead", x.trace(1), BAD);
        x.days(1);
        x.body(0);
        Due.be("it stays", x.trace(0), 1);
    }

    /** "THE TRACE's i-th body. BAD". */
    private static void traceIsRefused() {
        HillBoxes x = new HillBoxes();
        for (int i : new int[] {MIN, -1, 0, 23, 24, MAX}) {
            Due.be("ahead of any act: " + i, x.trace(i), BAD);
        }
        x.body(0);
        x.act(0, 3, 1);
        int[] asked = {MIN, -1, 0, 3, 4, 23, 24, MAX};
        int[] due = {BAD, BAD, 2, 11, BAD, BAD, BAD, BAD};
        for (int k = 0; k < asked.length; k++) {
            Due.be("place " + asked[k], x.trace(asked[k]), due[k]);
        }
    }

    // ---- SHELVES and ROWS

    /** "SHELVES 0 .. 5". */
    private static void shelvesAre0To5() {
        for (int shelf : new int[] {MIN, -1, 0, 5, 6, MAX}) {
            boolean good = shelf == 0 || shelf == 5;
            HillBoxes x = ground();
            Due.be("keep on " + shelf, x.keep(shelf, 0), good ? 1 : BAD);
            Due.be("taken of " + shelf, x.taken(shelf, 0), good ? 0 : BAD);
            Due.be("keep nothing on " + shelf, x.keep(shelf, -1), good ? 1 : BAD);
            Due.be("row on " + shelf, x.row(shelf, 2, 3), good ? 1 : BAD);
            Due.be("put on " + shelf, x.put(shelf, 0, 5), good ? 1 : BAD);
            Due.be("element of " + shelf, x.element(shelf, 0), good ? 5 : Long.MIN_VALUE);
            Due.be("shift within " + shelf, x.shift(shelf, 0, shelf, 1, 2), good ? 2 : BAD);
        }
    }

    /** "each hold nothing (at first)". */
    private static void nothingAtFirst() {
        HillBoxes x = new HillBoxes();
        for (int shelf = 0; shelf < 6; shelf++) {
            Due.be("taken", x.taken(shelf, 0), NOTHING);
            Due.be("put", x.put(shelf, 0, 1), NOTHING);
            Due.be("element", x.element(shelf, 0), Long.MIN_VALUE);
            Due.be("shift", x.shift(shelf, 0, shelf, 0, 0), NOTHING);
        }
    }

    /** "A SHELF holds nothing (body -1), or a BODY: 1. BAD". */
    private static void keepABodyOrNothing() {
        int[] bodies = {MIN, -2, -1, 0, 7, 8, 149, 150, MAX};
        int[] due = {BAD, BAD, 1, 1, 1, BAD, BAD, BAD, BAD};
        int[] taken = {7, 7, NOTHING, 0, 5, 7, 7, 7, 7};
        for (int k = 0; k < bodies.length; k++) {
            HillBoxes x = ground();
            x.keep(0, 1);
            Due.be("keep " + bodies[k], x.keep(0, bodies[k]), due[k]);
            Due.be("what it holds behind it", x.taken(0, 0), taken[k]);
        }
    }

    /** "0 bytes, 1 shorts, 2 ints, 3 longs, 4 booleans". */
    private static void sortsAre0To4() {
        for (int sort : new int[] {MIN, -1, 0, 1, 2, 3, 4, 5, MAX}) {
            HillBoxes x = ground();
            boolean good = sort >= 0 && sort <= 4;
            Due.be("row of sort " + sort, x.row(0, sort, 3), good ? 1 : BAD);
            Due.be("what it holds", x.put(0, 0, 1), good ? 1 : NOTHING);
            Due.be("BAD goes ahead of -14", x.row(0, sort, -1), good ? BELOW_0 : BAD);
        }
    }

    /** "of 0 .. 60 elements"; "BAD (sort, n above 60); -14". */
    private static void zeroTo60Elements() {
        for (int n : new int[] {MIN, -1, 0, 1, 59, 60, 61, MAX}) {
            for (int sort = 0; sort <= 4; sort++) {
                HillBoxes x = ground();
                Due.be("a ROW of " + n, x.row(0, sort, n), n < 0 ? BELOW_0 : n > 60 ? BAD : 1);
                boolean stands = n >= 0 && n <= 60;
                Due.be("its last one", x.put(0, n - 1, 1), !stands ? NOTHING : n == 0 ? NO_PLACE : 1);
                Due.be("behind its last one", x.put(0, n, 1), !stands ? NOTHING : NO_PLACE);
                Due.be("ahead of its first one", x.put(0, -1, 1), !stands ? NOTHING : NO_PLACE);
            }
        }
    }

    /** "0 at first (false)": in a new ROW at the place of an old one, too. */
    private static void zeroAtFirst() {
        HillBoxes x = ground();
        for (int sort = 0; sort <= 4; sort++) {
            x.row(0, sort, 60);
            for (int i = 0; i < 60; i += 59) {
                Due.be("element " + i + " of sort " + sort, x.element(0, i), 0);
                x.put(0, i, -1);
            }
        }
        x.row(0, 4, 30);
        x.row(0, 4, 60);
        Due.be("a ROW as long as one ahead", x.element(0, 59), 0);
        Due.be("its first one", x.element(0, 0), 0);
    }

    /** "what is put in keeps its lowest bits". */
    private static void itsLowestBits() {
        long[] v = {127, 128, 255, 256, -128, -129, 32767, 32768, 65535, 65536, -32768, -32769, MAX, MAX + 1L, 1L << 32,
            MIN, MIN - 1L, Long.MAX_VALUE, Long.MIN_VALUE, 0x123456789abcdefL};
        long[] bytes = {127, -128, -1, 0, -128, 127, -1, 0, -1, 0, 0, -1, -1, 0, 0, 0, -1, -1, 0, -17};
        long[] shorts = {127, 128, 255, 256, -128, -129, 32767, -32768, -1, 0, -32768, 32767, -1, 0, 0, 0, -1, -1, 0, -12817};
        long[] ints = {127, 128, 255, 256, -128, -129, 32767, 32768, 65535, 65536, -32768, -32769, MAX, MIN, 0, MIN, MAX, -1,
            0, 0x89abcdef};
        long[][] due = {bytes, shorts, ints, v};
        HillBoxes x = ground();
        for (int sort = 0; sort <= 3; sort++) {
            x.row(sort, sort, 60);
            for (int k = 0; k < v.length; k++) {
                Due.be("put " + v[k], x.put(sort, k, v[k]), 1);
                Due.be(v[k] + " of sort " + sort, x.element(sort, k), due[sort][k]);
            }
        }
    }

    /** "(a boolean: whether it is not 0; 1 or 0)". */
    private static void aBooleanIsWhetherItIsNot0() {
        HillBoxes x = ground();
        x.row(0, 4, 2);
        for (long v : new long[] {0, 1, 2, -1, 256, 1L << 32, Long.MIN_VALUE, Long.MAX_VALUE, 0}) {
            x.put(0, 1, v);
            Due.be(v + " as a boolean", x.element(0, 1), v == 0 ? 0 : 1);
        }
    }

    // ---- the host's REFUSALS

    /** "BAD, -11, -12, -13". */
    private static void putIsRefusedInOrder() {
        HillBoxes x = ground();
        x.row(1, 2, 2);
        x.keep(2, 3);
        int[] places = {MIN, -1, 0, 1, 2, 60, MAX};
        for (int i : places) {
            Due.be("no SHELF, place " + i, x.put(6, i, 7), BAD);
            Due.be("nothing, place " + i, x.put(0, i, 7), NOTHING);
            Due.be("a BODY, place " + i, x.put(2, i, 7), OTHER);
            Due.be("a ROW, place " + i, x.put(1, i, 7), i == 0 || i == 1 ? 1 : NO_PLACE);
        }
    }

    /** "Long.MIN_VALUE: BAD, -11 to -13": one answer for all of them. */
    private static void elementHasOneRefusal() {
        HillBoxes x = ground();
        Desk.row(x, 1, 3, 5, 6);
        x.keep(2, 3);
        for (int i : new int[] {MIN, -1, 0, 1, 2, 60, MAX}) {
            Due.be("no SHELF, place " + i, x.element(-1, i), Long.MIN_VALUE);
            Due.be("nothing, place " + i, x.element(0, i), Long.MIN_VALUE);
            Due.be("a BODY, place " + i, x.element(2, i), Long.MIN_VALUE);
            Due.be("a ROW, place " + i, x.element(1, i), i == 0 ? 5 : i == 1 ? 6 : Long.MIN_VALUE);
        }
    }

    private static void elements(String what, HillBoxes x, int shelf, long... due) {
        long[] got = new long[due.length];
        for (int i = 0; i < due.length; i++) {
            got[i] = x.element(shelf, i);
        }
        Due.row(what, got, due);
    }

    /** "(or the same) from j on, as they all were before: n". */
    private static void shiftWithinARow() {
        for (int n = 0; n <= 4; n++) {
            for (int i = 0; i + n <= 5; i++) {
                for (int j = 0; j + n <= 5; j++) {
                    HillBoxes x = new HillBoxes();
                    Desk.row(x, 0, 2, 1, 2, 3, 4, 5);
                    long[] due = {1, 2, 3, 4, 5};
                    System.arraycopy(new long[] {1, 2, 3, 4, 5}, i, due, j, n);
                    Due.be("shift", x.shift(0, i, 0, j, n), n);
                    elements(n + " from " + i + " to " + j, x, 0, due);
                }
            }
        }
    }

    /** "n elements of a ROW from i on come to another one": of each sort; the one they come from keeps them. */
    private static void shiftToAnotherRow() {
        for (int sort = 0; sort <= 4; sort++) {
            HillBoxes x = ground();
            Desk.row(x, 0, sort, 1, 1, 0);
            Desk.row(x, 1, sort, 0, 0, 0, 0);
            Due.be("of sort " + sort, x.shift(0, 0, 1, 2, 2), 2);
            elements("where they came", x, 1, 0, 0, 1, 1);
            elements("where they came from", x, 0, 1, 1, 0);
            x.put(0, 0, 0);
            elements("they are not one ROW", x, 1, 0, 0, 1, 1);
        }
    }

    /** "-13": the last places are there, those behind them are not. */
    private static void shiftToTheVeryEnd() {
        HillBoxes x = ground();
        x.row(0, 3, 60);
        x.row(1, 3, 60);
        x.put(0, 59, 7);
        Due.be("all 60", x.shift(0, 0, 1, 0, 60), 60);
        Due.be("the last", x.element(1, 59), 7);
        Due.be("61", x.shift(0, 0, 1, 0, 61), NO_PLACE);
        Due.be("60 from 1 on", x.shift(0, 1, 1, 0, 60), NO_PLACE);
        Due.be("60 to 1 on", x.shift(0, 0, 1, 1, 60), NO_PLACE);
        Due.be("the last to the first", x.shift(0, 59, 1, 0, 1), 1);
        Due.be("the first", x.element(1, 0), 7);
        Due.be("the last to the last", x.shift(0, 59, 1, 59, 1), 1);
        Due.be("behind the last", x.shift(0, 60, 1, 0, 1), NO_PLACE);
        Due.be("to behind the last", x.shift(0, 0, 1, 60, 1), NO_PLACE);
    }

    /** "with n 0, too, if i or j is above how many there are". */
    private static void shiftOfNone() {
        HillBoxes x = ground();
        x.row(0, 2, 3);
        x.row(1, 2, 5);
        x.row(2, 2, 0);
        for (int i = -1; i <= 6; i++) {
            for (int j = -1; j <= 6; j++) {
                boolean good = i >= 0 && i <= 3 && j >= 0 && j <= 5;
                Due.be("none from " + i + " to " + j, x.shift(0, i, 1, j, 0), good ? 0 : NO_PLACE);
            }
        }
        Due.be("none of none", x.shift(2, 0, 2, 0, 0), 0);
        Due.be("one of none", x.shift(2, 0, 2, 0, 1), NO_PLACE);
        Due.be("none from behind none", x.shift(2, 1, 2, 0, 0), NO_PLACE);
    }

    /** "-11 (either), -12 (no ROWS, or of unlike sorts), -13 (n below 0, too ..)". */
    private static void shiftIsRefusedInOrder() {
        HillBoxes x = ground();
        x.row(1, 2, 3);
        x.row(2, 3, 3);
        x.keep(3, 0);
        int[] held = {NOTHING, 2, 3, OTHER};
        for (int from = -1; from <= 4; from++) {
            for (int to = -1; to <= 4; to++) {
                for (int n : new int[] {MIN, -1, 4, MAX}) {
                    int due = NO_PLACE;
                    if (from < 0 || to < 0) {
                        due = BAD;
                    } else if (from == 4 || to == 4 || held[from] == NOTHING || held[to] == NOTHING) {
                        due = NOTHING;
                    } else if (held[from] == OTHER || held[to] == OTHER || held[from] != held[to]) {
                        due = OTHER;
                    }
                    Due.be("shift of " + n + " from SHELF " + from + " to " + to, x.shift(from, 0, to, 0, n), due);
                }
            }
        }
        Due.be("places ahead of all", x.shift(1, -1, 1, -1, 1), NO_PLACE);
        Due.be("sums that wrap", x.shift(1, MAX, 1, 0, MAX), NO_PLACE);
        Due.be("sums that wrap, to", x.shift(1, 0, 1, MAX, MAX), NO_PLACE);
        Due.be("sums that wrap, of one", x.shift(1, MAX, 1, MAX, 1), NO_PLACE);
        Due.be("all below 0", x.shift(1, MIN, 1, MIN, MIN), NO_PLACE);
    }

    /** "-12 (no ROWS ..)": a BODY is of no sort, whatever stood on its SHELF. */
    private static void shiftOfABodyIntoEachSort() {
        for (int sort = 0; sort <= 4; sort++) {
            HillBoxes x = ground();
            x.row(0, sort, 3);
            x.keep(1, 0);
            x.row(2, sort, 3);
            x.keep(2, 0);
            for (int shelf = 1; shelf <= 2; shelf++) {
                Due.be("from a BODY", x.shift(shelf, 0, 0, 0, 1), OTHER);
                Due.be("to a BODY", x.shift(0, 0, shelf, 0, 1), OTHER);
                Due.be("from a BODY to itself", x.shift(shelf, 0, shelf, 0, 0), OTHER);
                Due.be("put on a BODY", x.put(shelf, 0, 1), OTHER);
            }
        }
    }

    /** "taken for a BODY of KIND k (0 .. 7), or under it: its KIND". */
    private static void takenForAKindOrUnderIt() {
        int[] kinds = {0, 7, 6, 1, 2, 3, 4, 5};
        int[][] above = {{0}, {0, 7}, {0, 6}, {0, 1}, {0, 1, 2}, {0, 1, 3}, {0, 1, 4}, {0, 1, 2, 5}};
        HillBoxes x = ground();
        for (int body = 0; body < 8; body++) {
            x.keep(0, body);
            for (int k = -1; k <= 8; k++) {
                boolean isUnder = false;
                for (int one : above[body]) {
                    isUnder |= one == k;
                }
                Due.be("KIND " + kinds[body] + " taken for " + k, x.taken(0, k),
                    k < 0 || k > 7 ? BAD : isUnder ? kinds[body] : OTHER);
            }
        }
    }

    /** "BAD, -11, -12". */
    private static void takenIsRefusedInOrder() {
        HillBoxes x = ground();
        x.row(1, 0, 3);
        for (int k : new int[] {MIN, -1, 0, 7, 8, MAX}) {
            boolean good = k == 0 || k == 7;
            Due.be("no SHELF, KIND " + k, x.taken(6, k), BAD);
            Due.be("nothing, KIND " + k, x.taken(0, k), good ? NOTHING : BAD);
            Due.be("a ROW, KIND " + k, x.taken(1, k), good ? OTHER : BAD);
        }
    }

    /** A SHELF holds one of them: nothing, a BODY, or a ROW. */
    private static void whatAShelfHeldIsGone() {
        HillBoxes x = ground();
        Desk.row(x, 0, 2, 7, 8);
        x.keep(0, 1);
        Due.be("a BODY in place of a ROW", x.element(0, 0), Long.MIN_VALUE);
        Due.be("it is taken", x.taken(0, 7), 7);
        x.row(0, 2, 2);
        Due.be("a ROW in place of a BODY", x.taken(0, 7), OTHER);
        Due.be("its elements are new", x.element(0, 0), 0);
        x.keep(0, -1);
        Due.be("nothing in place of a ROW", x.taken(0, 7), NOTHING);
        Due.be("nothing in place of nothing", x.keep(0, -1), 1);
        x.keep(0, 1);
        x.keep(0, -1);
        Due.be("nothing in place of a BODY", x.taken(0, 7), NOTHING);
        x.row(0, 2, 2);
        Due.be("what is refused leaves a ROW", x.row(0, 2, 61), BAD);
        Due.be("of a size below 0, too", x.row(0, 2, -1), BELOW_0);
        Due.be("the ROW", x.put(0, 1, 5), 1);
    }

    /** One BODY may stand on all SHELVES. */
    private static void aShelfHoldsTheBodyItself() {
        HillBoxes x = ground();
        for (int shelf = 0; shelf < 6; shelf++) {
            Due.be("keep", x.keep(shelf, 7), 1);
        }
        x.down(7);
        for (int shelf = 0; shelf < 6; shelf++) {
            Due.be("taken", x.taken(shelf, 2), 5);
        }
    }
}
