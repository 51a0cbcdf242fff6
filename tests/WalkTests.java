/** Promises 38 to 44: walks, what nobody found, ranks. */
final class WalkTests {
    public static void main(String[] args) {
        wish();
        walkRefused();
        walkByWorth();
        walkByHours();
        walkByPlaces();
        walkOfLikeRows();
        walkByNight();
        walkWhereTheyLie();
        walkLimits();
        walked();
        judge();
        judgeRefused();
        judgeByNight();
        lookAt();
        nobody();
        bounds();
        nobodyBig();
        rank();
        rankOfCounting();
        rankBeside();
        rankOfFalse();
        Due.end("WalkTests");
    }

    private static final int BAD = HillBoxes.BAD, NOT = HillBoxes.NOT;

    /** A FINDER 0 and BOXES 1 .. 8 at 0, 3, 6, 9, 50, 53, 56, 59. */
    private static HillBoxes ground() {
        HillBoxes x = new HillBoxes();
        x.finder(22);
        for (int i = 0; i < 8; i++) {
            x.hide(0, 1, i / 4 * 50 + i % 4 * 3);
        }
        return x;
    }

    private static void wish() {
        HillBoxes x = ground();
        Due.be("a finder", x.wish(0, 1, 1), BAD);
        Due.be("none", x.wish(9, 1, 1), BAD);
        Due.be("worth 0", x.wish(1, 0, 1), BAD);
        Due.be("worth 100", x.wish(1, 100, 1), BAD);
        Due.be("hours -1", x.wish(1, 1, -1), BAD);
        Due.be("hours 10", x.wish(1, 1, 10), BAD);
        x.down(8);
        Due.be("put down", x.wish(8, 1, 1), BAD);
        Due.be("first", x.wish(1, 1, 0), 1);
        Due.be("told", x.wish(1, 2, 2), BAD);
        for (int i = 2; i <= 7; i++) {
            Due.be("wish " + i, x.wish(i, 99, 9), i);
        }
        Due.be("told, ahead of FULL", x.wish(7, 1, 1), BAD);
        x.hide(0, 1, 33);
        Due.be("an 8th", x.wish(9, 1, 1), HillBoxes.FULL);
        Due.be("put down, ahead of FULL", x.wish(8, 1, 1), BAD);
    }

    private static void walkRefused() {
        HillBoxes x = ground();
        Due.be("none told", x.walk(0, 48), NOT);
        x.wish(1, 5, 0);
        Due.be("at -1", x.walk(-1, 48), BAD);
        Due.be("at 1440", x.walk(1440, 48), BAD);
        Due.be("hours 0", x.walk(0, 0), BAD);
        Due.be("hours 49", x.walk(0, 49), BAD);
        Due.be("hours MIN", x.walk(0, Integer.MIN_VALUE), BAD);
        Due.be("too far", x.walk(1439, 13), NOT);
        Due.be("they stay", x.wish(1, 5, 0), BAD);
        Due.be("from 59", x.walk(1439, 14), 5);
        Due.be("its hours", x.walked(-1), 14);
        Due.be("none are told then", x.wish(1, 5, 0), 1);
        Due.be("without going", x.walk(0, 1), 5);
        Due.be("no hours", x.walked(-1), 0);
        Due.be("none told", x.walk(0, 1), NOT);
        Due.be("the latest that found one", x.walked(-1), 0);
    }

    private static void walkByWorth() {
        HillBoxes x = ground();
        x.wish(1, 3, 0);
        x.wish(2, 4, 0);
        x.wish(4, 8, 0);
        // from 0: box 1 at once, box 2 in 2 hours, box 4 in 5; both 2 and 4 in 2 + 3 and 5 back
        Due.be("all", x.walk(0, 10), 15);
        Due.be("all: hours", x.walked(-1), 10);
        Due.row("all: row", walk(x), 1, 2, 4, BAD);
        x.wish(1, 3, 0);
        x.wish(2, 4, 0);
        x.wish(4, 8, 1);
        Due.be("two", x.walk(0, 10), 7);
        Due.be("two: hours", x.walked(-1), 4);
        Due.row("two: row", walk(x), 1, 2, BAD);
    }

    private static long[] walk(HillBoxes x) {
        int n = 0;
        while (n < 9 && x.walked(n) >= 0) {
            n++;
        }
        long[] row = new long[n + 1];
        for (int i = 0; i <= n; i++) {
            row[i] = x.walked(i);
        }
        return row;
    }

    private static void walkByHours() {
        HillBoxes x = ground();
        x.wish(4, 10, 1);
        x.wish(2, 10, 2);
        x.wish(1, 5, 9);
        // 4 alone in 5 + 1 + 5, 2 alone in 2 + 2 + 2; both, or 1 as well, in more than 12
        Due.be("of like worth the fewest hours", x.walk(0, 12), 10);
        Due.row("of like worth: row", walk(x), 2, BAD);
        Due.be("of like worth: hours", x.walked(-1), 6);
    }

    private static void walkByPlaces() {
        HillBoxes x = ground();
        // a round: in both directions of like hours
        x.wish(4, 1, 0);
        x.wish(5, 1, 0);
        x.wish(8, 1, 0);
        Due.be("worth", x.walk(0, 48), 3);
        Due.row("the first by places told", walk(x), 4, 8, 5, BAD);
        x.wish(8, 1, 0);
        x.wish(5, 1, 0);
        x.wish(4, 1, 0);
        Due.be("worth", x.walk(0, 48), 3);
        Due.row("the first place by place", walk(x), 5, 8, 4, BAD);
        Due.be("hours", x.walked(-1), 3 + 5 + 3 + 5);
    }

    private static void walkOfLikeRows() {
        HillBoxes x = ground();
        // 2 + 5 = 7 as 7 alone: place 0 goes ahead in equal hours
        x.wish(2, 2, 0);
        x.wish(1, 5, 4);
        x.wish(5, 7, 2);
        Due.be("worth", x.walk(0, 8), 7);
        Due.row("row of two, or of one", walk(x), 2, 1, BAD);
    }

    private static void walkByNight() {
        HillBoxes x = new HillBoxes();
        x.finder(0);
        x.hide(0, 5, 9);
        x.hide(0, 1, 5);
        x.wish(1, 10, 2);
        // 5 hours there, and 5 back
        Due.be("from 0 on it comes at 5", x.walk(0, 12), 10);
        Due.be("hours", x.walked(-1), 12);
        x.wish(1, 10, 2);
        Due.be("from 1 on it waits from 6 to 20", x.walk(1, 25), NOT);
        Due.be("from 1 on", x.walk(1, 26), 10);
        Due.be("hours with wait", x.walked(-1), 26);
        x.wish(1, 10, 2);
        Due.be("from 14 on it comes at 19", x.walk(14, 12), NOT);
        Due.be("from 14 on", x.walk(14, 13), 10);
        x.wish(1, 10, 2);
        Due.be("from 15 on it comes at 20", x.walk(15, 12), 10);
        x.wish(1, 10, 2);
        Due.be("from 19 on it comes at 0", x.walk(19, 12), 10);
        x.wish(1, 10, 9);
        x.wish(2, 1, 1);
        // the other one in the time that it would wait
        Due.be("both", x.walk(14, 30), 11);
        Due.row("both: row", walk(x), 2, 1, BAD);
        Due.be("both: hours", x.walked(-1), 3 + 1 + 2 + 9 + 5);
    }

    private static void walkWhereTheyLie() {
        HillBoxes x = new HillBoxes();
        x.finder(0);
        x.hide(0, 4, 9);
        x.step(59);
        x.step(2);
        x.hide(0, 3, 50);
        x.move(1, 40, 23);
        x.wish(1, 1, 0);
        Due.be("moved", x.walk(0, 4), 1);
        x.wish(2, 1, 0);
        Due.be("MANY", x.walk(0, 2), 1);
        x.wish(1, 1, 0);
        x.down(1);
        Due.be("put down, it stays told", x.wish(1, 1, 0), BAD);
        Due.be("put down", x.walk(0, 4), 1);
        Due.be("its hours", x.walked(-1), 4);
        Due.be("put down: its number", x.walked(0), 1);
    }

    private static void walkLimits() {
        HillBoxes x = ground();
        for (int i = 1; i <= 7; i++) {
            x.wish(i, i, 0);
        }
        Due.be("all seven", x.walk(0, 48), 28);
        // 2 + 2 + 2 along the top, 4 from 9 to 56, 2 + 2 along the bottom, 3 back
        Due.be("hours", x.walked(-1), 17);
        Due.row("row", walk(x), 1, 2, 3, 4, 7, 6, 5, BAD);
        for (int i = 1; i <= 7; i++) {
            x.wish(i, 99, 9);
        }
        Due.be("as many as fit", x.walk(0, 48), 99 * 4);
        for (int i = 1; i <= 7; i++) {
            x.wish(i, 99, 6);
        }
        Due.be("more", x.walk(0, 48), 99 * 5);
    }

    private static void walked() {
        HillBoxes x = ground();
        Due.be("no walk yet", x.walked(-1), BAD);
        Due.be("no walk yet, 0", x.walked(0), BAD);
        x.wish(3, 1, 1);
        x.wish(2, 1, 1);
        x.walk(0, 48);
        Due.be("hours", x.walked(-1), 3 + 1 + 2 + 1 + 2);
        Due.be("0", x.walked(0), 3);
        Due.be("1", x.walked(1), 2);
        Due.be("2", x.walked(2), BAD);
        Due.be("-2", x.walked(-2), BAD);
        Due.be("MAX", x.walked(Integer.MAX_VALUE), BAD);
        x.hide(0, 1, 22);
        x.wish(9, 1, 6);
        x.judge(0, 48, 1);
        x.walk(0, 9);
        Due.be("still", x.walked(-1), 9);
        x.walk(0, 10);
        Due.be("the next", x.walked(-1), 10);
        Due.be("the next, 0", x.walked(0), 9);
        Due.be("the next, 1", x.walked(1), BAD);
    }

    private static void judge() {
        HillBoxes x = ground();
        x.wish(4, 1, 2);
        x.wish(8, 1, 3);
        x.wish(1, 1, 0);
        Due.be("1", x.judge(0, 48, 1), 5 + 2 + 5);
        Due.be("12", x.judge(0, 48, 12), 5 + 2 + 3 + 3 + 7);
        Due.be("21", x.judge(0, 48, 21), 7 + 3 + 3 + 2 + 5);
        Due.be("321", x.judge(0, 48, 321), 20);
        Due.be("213", x.judge(0, 48, 213), 20);
        Due.be("from another CELL and HOUR", x.judge(24 * 59 + 23, 48, 13), 3 + 2 + 5 + 7);
        Due.be("just in time", x.judge(0, 12, 1), 12);
        Due.be("too late", x.judge(0, 11, 1), NOT);
        Due.be("they stay", x.wish(4, 1, 1), BAD);
    }

    private static void judgeRefused() {
        HillBoxes x = ground();
        Due.be("none told", x.judge(0, 48, 1), BAD);
        x.wish(4, 1, 2);
        x.wish(8, 1, 3);
        int[] no = {0, -1, -12, 3, 13, 11, 121, 10, 102, 1212121212, Integer.MAX_VALUE, Integer.MIN_VALUE, 122, 9};
        for (int row : no) {
            Due.be("row " + row, x.judge(0, 48, row), BAD);
        }
        Due.be("at -1", x.judge(-1, 48, 1), BAD);
        Due.be("at 1440", x.judge(1440, 48, 1), BAD);
        Due.be("hours 0", x.judge(0, 0, 1), BAD);
        Due.be("hours 49", x.judge(0, 49, 1), BAD);
        Due.be("bad ahead of NOT", x.judge(0, 1, 3), BAD);
        for (int i = 1; i <= 6; i++) {
            x.wish(i, 1, 0);
        }
        Due.be("seven digits", x.judge(0, 48, 7654321) > 0 ? 1 : 0, 1);
        Due.be("eight digits", x.judge(0, 48, 17654321), BAD);
        Due.be("digit 8", x.judge(0, 48, 8), BAD);
    }

    private static void judgeByNight() {
        HillBoxes x = new HillBoxes();
        x.finder(0);
        x.hide(0, 5, 9);
        x.hide(0, 5, 0);
        x.wish(1, 1, 4);
        x.wish(2, 1, 8);
        Due.be("begun at 5, ended by day", x.judge(0, 48, 1), 14);
        Due.be("begun at 6: it waits", x.judge(1, 48, 1), 5 + 14 + 4 + 5);
        Due.be("both: it waits twice", x.judge(6, 48, 21), 14 + 8 + 5 + 11 + 4 + 5);
        Due.be("both: too long", x.judge(6, 46, 21), NOT);
        Due.be("both from 20 on", x.judge(20, 48, 21), 8 + 5 + 11 + 4 + 5);
        Due.be("a wait that is too long", x.judge(20, 32, 21), NOT);
    }

    private static void lookAt() {
        HillBoxes x = ground();
        Due.be("a finder", x.lookAt(0, 0), BAD);
        Due.be("none", x.lookAt(9, 0), BAD);
        Due.be("gone 2", x.lookAt(1, 2), BAD);
        Due.be("gone -1", x.lookAt(1, -1), BAD);
        Due.be("there", x.lookAt(1, 0), 1);
        Due.be("again", x.lookAt(1, 1), NOT);
        Due.be("gone", x.lookAt(2, 1), 2);
        x.log(0, 3, 0, 1);
        x.log(0, 4, 0, 0);
        x.down(5);
        Due.be("somebody found it", x.lookAt(3, 0), NOT);
        Due.be("nobody found it", x.lookAt(4, 0), 3);
        Due.be("put down", x.lookAt(5, 0), NOT);
        x.log(0, 1, 0, 1);
        x.down(2);
        Due.be("all that were ever looked at", x.lookAt(6, 0), 4);
    }

    private static long[] nobody(HillBoxes x) {
        return new long[] {x.nobody(0), x.nobody(1), x.nobody(2), x.nobody(3)};
    }

    private static void nobody() {
        HillBoxes x = ground();
        Due.row("none looked at", nobody(x), 8, 0, 0, 8);
        x.lookAt(1, 0);
        Due.row("one there", nobody(x), 8, 1, 0, 7);
        x.lookAt(2, 1);
        Due.row("one gone", nobody(x), 8, 2, 1, 7);
        x.lookAt(3, 0);
        x.lookAt(4, 0);
        // of 4 one or none gone: of 5 gone 5 ways of 70 (7 of 100), of 6 none
        Due.row("two more there", nobody(x), 8, 4, 1, 5);
        x.log(0, 2, 0, 1);
        // of 7 with 4 gone 1 way of 35 to see 3 there, with 3 gone 4 ways
        Due.row("found since", nobody(x), 7, 3, 0, 3);
        x.log(0, 5, 0, 0);
        x.down(1);
        Due.row("put down since", nobody(x), 6, 2, 0, 4);
        Due.be("what 4", x.nobody(4), BAD);
        Due.be("what -1", x.nobody(-1), BAD);
    }

    /** BOUND of n boxes, c looked at, w gone. */
    private static int bound(int n, int c, int w) {
        HillBoxes x = new HillBoxes();
        x.finder(0);
        Desk.rule(x, "0", 0, 0);
        for (int i = 0; i < n; i++) {
            x.hide(0, 1, i);
        }
        for (int i = 0; i < c; i++) {
            x.lookAt(1 + i, i < w ? 1 : 0);
        }
        return x.nobody(3);
    }

    private static void bounds() {
        Due.be("none at all", bound(0, 0, 0), 0);
        Due.be("all looked at", bound(5, 5, 2), 2);
        Due.be("all gone", bound(5, 5, 5), 5);
        Due.be("none gone of 5", bound(30, 5, 0), 12);
        Due.be("5 of 100 is enough", bound(20, 1, 0), 19);
        Due.be("half of 30, none", bound(30, 15, 0), 3);
        Due.be("half of 30, half", bound(30, 15, 7), 19);
        Due.be("half of 30, all", bound(30, 15, 15), 30);
        Due.be("29 of 30, 3", bound(30, 29, 3), 4);
        for (int n = 1; n <= 30; n += 7) {
            for (int c = 1; c <= n; c += 4) {
                for (int w = 0; w <= c; w += 3) {
                    Due.be("BOUND of " + n + ", " + c + ", " + w, bound(n, c, w), boundByFractions(n, c, w));
                }
            }
        }
    }

    /** BOUND by the chance of each draw, one after the other. */
    private static int boundByFractions(int n, int c, int w) {
        int most = w;
        for (int gone = w; gone <= n - c + w; gone++) {
            double[] chance = new double[c + 1];
            chance[0] = 1;
            for (int draw = 0; draw < c; draw++) {
                for (int had = draw; had >= 0; had--) {
                    double next = (double) Math.max(0, gone - had) / (n - draw);
                    chance[had + 1] += chance[had] * next;
                    chance[had] *= 1 - next;
                }
            }
            double all = 0;
            for (int had = 0; had <= w; had++) {
                all += chance[had];
            }
            if (all > 0.05 - 1e-12) {
                most = gone;
            }
        }
        return most;
    }

    private static void nobodyBig() {
        HillBoxes x = new HillBoxes();
        x.finder(0);
        Desk.rule(x, "0", 0, 0);
        for (int i = 0; i < 30; i++) {
            x.hide(0, 1, i);
        }
        Due.row("30", nobody(x), 30, 0, 0, 30);
        x.hide(0, 1, 0);
        Due.row("31", nobody(x), 31, 0, 0, HillBoxes.BIG);
        x.log(0, 1, 0, 1);
        Due.be("30 again", x.nobody(3), 30);
    }

    private static long[] ranks(HillBoxes x, int day, int rule, int what) {
        long[] all = new long[4];
        for (int i = 0; i < 4; i++) {
            all[i] = x.rank(i, day, rule, what);
        }
        return all;
    }

    /** FINDERS 0 .. 3 and BOXES 4, 5, 6 at 0, 5, 9. */
    private static HillBoxes finders() {
        HillBoxes x = new HillBoxes();
        for (int i = 0; i < 4; i++) {
            x.finder(0);
        }
        x.hide(0, 1, 0);
        x.hide(0, 1, 5);
        x.hide(0, 1, 9);
        x.days(5);
        return x;
    }

    private static void rank() {
        HillBoxes x = finders();
        Due.row("no LOGS", ranks(x, 0, -1, 0), 0, 0, 0, 0);
        Due.row("no LOGS: places", ranks(x, 0, -1, 1), 1, 1, 1, 1);
        x.log(1, 4, 0, 1);
        x.log(1, 4, 30, 1);
        x.log(1, 5, 40, 1);
        x.log(2, 4, 47, 1);
        x.log(2, 5, 48, 1);
        x.log(3, 5, 3, 1);
        x.log(3, 6, 13, 0);
        x.log(2, 4, 48 + 12, 1);
        Due.row("on DAY 0", ranks(x, 0, -1, 0), 0, 1, 0, 1);
        Due.row("on DAY 1", ranks(x, 1, -1, 0), 0, 2, 0, 1);
        Due.row("on DAY 2", ranks(x, 2, -1, 0), 0, 2, 1, 1);
        Due.row("on DAY 999", ranks(x, 999, -1, 0), 0, 2, 1, 1);
        Due.row("places on DAY 0", ranks(x, 0, -1, 1), 3, 1, 3, 1);
        Due.row("places on DAY 1", ranks(x, 1, -1, 1), 3, 1, 3, 2);
        Due.row("places on DAY 2", ranks(x, 2, -1, 1), 4, 1, 2, 2);
        x.leaves(1);
        Due.be("one that left", x.rank(1, 2, -1, 1), 1);
        Due.be("behind one that left", x.rank(2, 2, -1, 1), 2);
        Due.be("a BOX", x.rank(4, 2, -1, 1), BAD);
        Due.be("none", x.rank(7, 2, -1, 1), BAD);
        Due.be("DAY -1", x.rank(0, -1, -1, 1), BAD);
        Due.be("DAY 1000", x.rank(0, 1000, -1, 1), BAD);
        Due.be("what 2", x.rank(0, 0, -1, 2), BAD);
        Due.be("what -1", x.rank(0, 0, -1, -1), BAD);
        Due.be("rule -2", x.rank(0, 0, -2, 0), BAD);
        Due.be("rule 0", x.rank(0, 0, 0, 0), BAD);
    }

    private static void rankOfCounting() {
        HillBoxes x = finders();
        x.log(0, 4, 10, 1);
        x.log(0, 5, 50, 1);
        x.log(0, 6, 75, 1);
        x.log(1, 6, 75, 1);
        Desk.rule(x, "not mine", 2, 0);
        Due.row("not its own", ranks(x, 5, -1, 0), 0, 1, 0, 0);
        Desk.rule(x, "day = 2", 2, 2);
        Due.row("by the DAY of the LOG", ranks(x, 5, -1, 0), 1, 0, 0, 0);
        x.days(1);
        Desk.rule(x, "hour = 3", 2, 3);
        Due.row("as known TODAY", ranks(x, 5, -1, 0), 2, 1, 0, 0);
    }

    private static void rankBeside() {
        HillBoxes x = finders();
        x.log(0, 4, 10, 1);
        x.log(0, 5, 50, 1);
        x.log(1, 6, 75, 1);
        Due.be("in force", Desk.rule(x, "not mine", 2, 0), 0);
        Due.be("beside, for late DAYS", Desk.rule(x, "mine and hour = 2", 2, 999), 1);
        Due.be("of another USE", Desk.rule(x, "1", 1, 0), 2);
        Due.row("in force", ranks(x, 5, -1, 0), 0, 1, 0, 0);
        Due.row("beside", ranks(x, 5, 1, 0), 1, 0, 0, 0);
        Desk.rule(x, "0", 2, 0);
        Due.row("in force none, beside RULE 0", ranks(x, 5, 0, 0), 0, 1, 0, 0);
        Desk.rule(x, "not mine", 2, 0);
        Due.row("places beside", ranks(x, 5, 1, 1), 1, 2, 2, 2);
        Due.row("the one in force", ranks(x, 5, 0, 1), 2, 1, 2, 2);
        Due.be("a RULE of another USE", x.rank(0, 5, 2, 0), BAD);
        Due.be("no RULE", x.rank(0, 5, 5, 0), BAD);
    }

    private static void rankOfFalse() {
        HillBoxes x = finders();
        x.log(0, 4, 10, 1);
        x.log(0, 6, 11, 1);
        x.log(0, 6, 50, 1);
        x.log(1, 5, 119, 1);
        x.log(2, 5, 120, 1);
        Due.row("those too soon are none", ranks(x, 5, -1, 0), 1, 1, 1, 0);
        x.down(5);
        Due.row("of one put down", ranks(x, 5, -1, 0), 1, 1, 0, 0);
        Due.row("places", ranks(x, 5, -1, 1), 1, 1, 3, 3);
    }
}
