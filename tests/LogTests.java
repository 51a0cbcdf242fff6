/** Promises 23 to 29: logs, paper, join, first, false ones, gone, chance. */
final class LogTests {
    public static void main(String[] args) {
        log();
        logWhenFull();
        paper();
        paperPlaces();
        join();
        first();
        firstThatCounts();
        falseNowhere();
        falseTooSoon();
        falseTooSoonOfMoved();
        falseByDay();
        falseNotOnPaper();
        falseInOrder();
        falseRefused();
        gone();
        goneWithoutFind();
        goneOfLikeMoments();
        chance();
        Due.end("LogTests");
    }

    private static void log() {
        HillBoxes x = new HillBoxes();
        x.finder(0);
        x.hide(0, 1, 30);
        Due.be("no finder", x.log(2, 1, 0, 1), HillBoxes.BAD);
        Due.be("a box as finder", x.log(1, 1, 0, 1), HillBoxes.BAD);
        Due.be("no box", x.log(0, 2, 0, 1), HillBoxes.BAD);
        Due.be("a finder as box", x.log(0, 0, 0, 1), HillBoxes.BAD);
        Due.be("ahead of all", x.log(0, 1, -1, 1), HillBoxes.BAD);
        Due.be("tomorrow", x.log(0, 1, 24, 1), HillBoxes.BAD);
        Due.be("found 2", x.log(0, 1, 0, 2), HillBoxes.BAD);
        Due.be("found -1", x.log(0, 1, 0, -1), HillBoxes.BAD);
        Due.be("late TODAY", x.log(0, 1, 23, 1), 0);
        x.days(2);
        Due.be("ahead", x.log(0, 1, 0, 0), 1);
        Due.be("late TODAY", x.log(0, 1, 71, 0), 2);
        Due.be("tomorrow", x.log(0, 1, 72, 0), HillBoxes.BAD);
        x.leaves(0);
        x.down(1);
        Due.be("one that left, of one put down", x.log(0, 1, 71, 1), 3);
        Due.be("logs", x.count(5), 4);
        Due.be("MAX", x.log(0, 1, Integer.MAX_VALUE, 0), HillBoxes.BAD);
    }

    private static void logWhenFull() {
        HillBoxes x = new HillBoxes();
        x.finder(0);
        x.hide(0, 1, 30);
        for (int i = 0; i < 300; i++) {
            Due.be("log " + i, x.log(0, 1, i % 24, 1), i);
        }
        Due.be("log 300", x.log(0, 1, 0, 1), HillBoxes.FULL);
        Due.be("bad ahead of FULL", x.log(0, 1, 24, 1), HillBoxes.BAD);
        Due.be("finds", x.ofBody(1, 6), 300);
        Due.be("the last one", x.isFalse(299, 0), 0);
        Due.be("one more", x.isFalse(300, 0), HillBoxes.BAD);
    }

    /** FINDERS 0 .. 3 and a BOX 4. */
    private static HillBoxes ground() {
        HillBoxes x = new HillBoxes();
        x.finder(0);
        x.finder(9);
        x.finder(50);
        x.finder(59);
        x.hide(0, 1, 33);
        return x;
    }

    private static void paper() {
        HillBoxes x = ground();
        x.row(0, 1, 3);
        Due.be("a finder", x.paper(0, 0, 0, 1), HillBoxes.BAD);
        Due.be("none", x.paper(5, 0, 0, 1), HillBoxes.BAD);
        Due.be("SHELF 6", x.paper(4, 6, 0, 1), HillBoxes.BAD);
        Due.be("SHELF -1", x.paper(4, -1, 0, 1), HillBoxes.BAD);
        Due.be("n 0", x.paper(4, 0, 0, 0), HillBoxes.BAD);
        Due.be("n 41", x.paper(4, 0, 0, 41), HillBoxes.BAD);
        for (int sort = 0; sort <= 4; sort++) {
            if (sort != 1) {
                x.row(1, sort, 3);
                Due.be("a ROW of sort " + sort, x.paper(4, 1, 0, 1), -12);
            }
        }
        x.keep(1, 0);
        Due.be("a BODY", x.paper(4, 1, 0, 1), -12);
        Due.be("three like names", x.paper(4, 0, 0, 40), 3);
        Due.be("it takes the place", Desk.paper(x, 4, 2, 1), 2);
        Due.be("the first", x.first(4), 2);
        Due.be("on PAPER", x.join(4, 2, -1), 2);
        Due.be("it ends where no FINDER is", Desk.paper(x, 4, 1, 4, 2), 1);
        Due.be("at a number below 0", Desk.paper(x, 4, 1, 2, -1, 3), 2);
        Due.be("at a number that is none", Desk.paper(x, 4, 3, 300), 1);
        x.row(2, 1, 50);
        Due.be("40 names", x.paper(4, 2, 0, 40), 40);
        Due.be("40 names from 10 on", x.paper(4, 2, 10, 40), 40);
        Due.be("39 names from 11 on", x.paper(4, 2, 11, 40), 39);
        Due.be("nothing on the SHELF", x.paper(4, 3, 0, 1), 0);
        Due.be("it took the place", x.join(4, 2, -1), 0);
    }

    private static void paperPlaces() {
        HillBoxes x = ground();
        Desk.row(x, 0, 1, 3, 2, 1, 0);
        Due.be("2 from 1 on", x.paper(4, 0, 1, 2), 2);
        Due.be("the first of them", x.first(4), 2);
        Due.be("3 from 3 on", x.paper(4, 0, 3, 3), 1);
        Due.be("the first of them", x.first(4), 0);
        Due.be("from the end on", x.paper(4, 0, 4, 3), 0);
        Due.be("none of them", x.first(4), HillBoxes.NOT);
        x.paper(4, 0, 0, 4);
        Due.be("below 0", x.paper(4, 0, -1, 3), 0);
        Due.be("none of them", x.first(4), HillBoxes.NOT);
        Due.be("MIN", x.paper(4, 0, Integer.MIN_VALUE, 3), 0);
        Due.be("MAX", x.paper(4, 0, Integer.MAX_VALUE, 3), 0);
        x.paper(4, 0, 0, 4);
        Due.be("below 0 of a ROW of another sort", x.row(1, 2, 3), 1);
        Due.be("it is refused", x.paper(4, 1, -1, 3), -12);
        Due.be("and changes nothing", x.first(4), 3);
    }

    private static long[] joined(HillBoxes x, int box, int what) {
        int n = x.join(box, what, -1);
        long[] all = new long[n + 2];
        all[0] = n;
        for (int i = 0; i <= n; i++) {
            all[i + 1] = x.join(box, what, i);
        }
        return all;
    }

    private static void join() {
        HillBoxes x = ground();
        x.hide(0, 1, 0);
        x.log(3, 4, 1, 1);
        x.log(1, 4, 2, 1);
        x.log(1, 4, 9, 1);
        x.log(2, 4, 3, 0);
        x.log(2, 5, 9, 1);
        final long b = HillBoxes.BAD;
        Due.row("SAME without PAPER", joined(x, 4, 0), 0, b);
        Due.row("HERE without PAPER", joined(x, 4, 1), 2, 1, 3, b);
        Due.row("THERE without PAPER", joined(x, 4, 2), 0, b);
        Desk.paper(x, 4, 3, 2, 3, 0, 2);
        Due.row("SAME", joined(x, 4, 0), 1, 3, b);
        Due.row("HERE", joined(x, 4, 1), 1, 1, b);
        Due.row("THERE", joined(x, 4, 2), 2, 0, 2, b);
        Due.be("what 3", x.join(4, 3, -1), b);
        Due.be("what -1", x.join(4, -1, -1), b);
        Due.be("i -2", x.join(4, 0, -2), b);
        Due.be("i MAX", x.join(4, 0, Integer.MAX_VALUE), b);
        Due.be("a finder", x.join(0, 0, -1), b);
        Due.be("none", x.join(6, 0, -1), b);
    }

    private static void first() {
        HillBoxes x = ground();
        Due.be("nobody", x.first(4), HillBoxes.NOT);
        Due.be("a finder", x.first(0), HillBoxes.BAD);
        Due.be("none", x.first(5), HillBoxes.BAD);
        x.log(3, 4, 9, 0);
        Due.be("not found", x.first(4), HillBoxes.NOT);
        x.log(2, 4, 9, 1);
        x.log(1, 4, 9, 1);
        Due.be("of like ones the lesser LOG's", x.first(4), 2);
        x.log(3, 4, 8, 1);
        Due.be("the least moment", x.first(4), 3);
        Desk.paper(x, 4);
        Due.be("PAPER without a name is as none", x.first(4), 3);
        Desk.paper(x, 4, 0, 1);
        Due.be("the first on PAPER", x.first(4), 0);
    }

    private static void firstThatCounts() {
        HillBoxes x = ground();
        x.days(3);
        x.log(1, 4, 5, 1);
        x.log(2, 4, 30, 1);
        x.log(3, 4, 31, 1);
        Desk.rule(x, "hour > 6", 2, 1);
        Due.be("a rule for later DAYS", x.first(4), 1);
        Desk.rule(x, "hour > 6", 2, 0);
        Due.be("by HOUR", x.first(4), 3);
        Desk.rule(x, "0", 2, 2);
        Due.be("on their DAY, not TODAY", x.first(4), 3);
        Desk.rule(x, "0 - 5", 2, 0);
        Due.be("not 0 is yes", x.first(4), 1);
        Desk.rule(x, "mine", 2, 0);
        Due.be("none counts", x.first(4), HillBoxes.NOT);
        x.log(0, 4, 70, 1);
        Due.be("its KEEPER's", x.first(4), 0);
    }

    private static void falses(String what, HillBoxes x, int log, int which, int other) {
        Due.be(what + ": which", x.isFalse(log, 0), which);
        Due.be(what + ": the other LOG", x.isFalse(log, 1), other);
    }

    private static void falseNowhere() {
        HillBoxes x = new HillBoxes();
        x.finder(0);
        x.days(2);
        x.hide(0, 1, 33);
        x.days(2);
        x.log(0, 1, 47, 1);
        x.log(0, 1, 48, 1);
        x.log(0, 1, 95, 1);
        x.log(0, 1, 96, 1);
        x.log(0, 1, 47, 0);
        falses("ahead of its hiding", x, 0, 1, -1);
        falses("from its hiding on", x, 1, 0, -1);
        falses("later", x, 2, 0, -1);
        falses("TODAY", x, 3, 0, -1);
        falses("not found", x, 4, 0, -1);
        x.down(1);
        falses("ahead of its end", x, 2, 0, -1);
        falses("put down on that DAY", x, 3, 1, -1);
    }

    private static void falseTooSoon() {
        HillBoxes x = new HillBoxes();
        x.finder(0);
        x.finder(1);
        x.hide(0, 1, 0);
        x.hide(0, 1, 5);
        x.hide(0, 1, 50);
        x.log(0, 2, 10, 1);
        x.log(0, 3, 13, 1);
        falses("FAR 5 in 3 HOURS", x, 0, 0, -1);
        falses("FAR 5 in 3 HOURS, back", x, 1, 0, -1);
        x.log(1, 2, 10, 1);
        x.log(1, 3, 12, 1);
        falses("FAR 5 in 2 HOURS", x, 2, 2, 3);
        falses("FAR 5 in 2 HOURS, back", x, 3, 2, 2);
        falses("of another FINDER", x, 0, 0, -1);
        x.log(0, 4, 12, 0);
        falses("by one that was not found", x, 0, 0, -1);
        x.log(0, 4, 11, 1);
        falses("by a later LOG", x, 0, 2, 5);
        falses("by one, and by another", x, 5, 2, 0);
        falses("the other", x, 1, 2, 5);
        x.log(1, 4, 23, 1);
        x.log(1, 2, 23, 1);
        x.log(1, 2, 23, 1);
        falses("of one moment", x, 6, 2, 7);
        falses("of one moment, back", x, 7, 2, 6);
        falses("of one BOX and moment", x, 8, 2, 6);
        x.down(4);
        falses("when the other lies nowhere", x, 7, 0, -1);
        falses("itself nowhere", x, 6, 1, -1);
    }

    private static void falseTooSoonOfMoved() {
        HillBoxes x = new HillBoxes();
        x.finder(0);
        x.hide(0, 4, 0);
        x.log(0, 1, 4, 1);
        x.move(1, 59, 5);
        x.log(0, 1, 8, 1);
        falses("of one that was moved", x, 0, 2, 1);
        falses("of one that was moved, back", x, 1, 2, 0);
        x.log(0, 1, 11, 1);
        falses("FAR 14 in 7 HOURS", x, 0, 2, 1);
        falses("FAR 14 in 7 HOURS: it has no other", x, 2, 0, -1);
        x.step(55);
        x.step(9);
        x.hide(0, 3, 50);
        x.log(0, 2, 13, 1);
        falses("where a MANY lies", x, 3, 2, 2);
    }

    private static void falseByDay() {
        HillBoxes x = new HillBoxes();
        x.finder(0);
        x.hide(0, 5, 0);
        x.hide(0, 2, 9);
        x.days(1);
        for (int hour = 0; hour < 24; hour++) {
            x.log(0, 1, 24 + hour, 1);
            falses("NIGHT at " + hour, x, hour, hour < 6 || hour >= 20 ? 0 : 3, -1);
        }
        x.finder(0);
        x.log(3, 2, 36, 1);
        falses("a RIDDLE by day", x, 24, 0, -1);
        x.log(3, 1, 36, 0);
        falses("NIGHT, not found", x, 25, 0, -1);
    }

    private static void falseNotOnPaper() {
        HillBoxes x = ground();
        x.hide(0, 1, 0);
        x.log(1, 4, 10, 1);
        x.log(0, 4, 9, 0);
        x.log(0, 4, 11, 0);
        falses("without PAPER", x, 0, 0, -1);
        Desk.paper(x, 4);
        falses("PAPER without a name", x, 0, 4, -1);
        Desk.paper(x, 4, 2);
        falses("not on PAPER", x, 0, 4, -1);
        Desk.paper(x, 4, 2, 1);
        falses("on PAPER", x, 0, 0, -1);
        Desk.paper(x, 4, 2);
        x.log(2, 5, 10, 1);
        falses("a LOG of another BOX between", x, 0, 4, -1);
        x.log(2, 4, 11, 1);
        falses("a later one of that moment", x, 0, 4, -1);
        x.log(3, 4, 10, 1);
        falses("one found behind it", x, 0, 0, -1);
        falses("one found ahead of it", x, 5, 0, -1);

        HillBoxes y = ground();
        Desk.paper(y, 4, 2);
        y.log(1, 4, 10, 0);
        y.log(1, 4, 10, 1);
        falses("none behind it", y, 1, 0, -1);
        y.log(3, 4, 10, 0);
        falses("of like moments by number", y, 1, 4, -1);

        HillBoxes z = ground();
        Desk.paper(z, 4, 2);
        z.log(1, 4, 10, 1);
        z.log(1, 4, 10, 0);
        z.log(1, 4, 10, 0);
        falses("none ahead of it", z, 0, 0, -1);
        z.log(1, 4, 9, 0);
        falses("one ahead of it", z, 0, 4, -1);
        z.log(2, 4, 9, 1);
        falses("one found ahead of it", z, 0, 0, -1);

        HillBoxes w = ground();
        Desk.paper(w, 4, 2);
        w.log(1, 4, 20, 0);
        w.log(1, 4, 22, 1);
        w.log(1, 4, 10, 1);
        w.log(1, 4, 5, 0);
        falses("LOG 0 behind it", w, 2, 4, -1);
        w.log(1, 4, 15, 1);
        falses("one found behind it", w, 2, 0, -1);
        falses("LOG 0 behind another", w, 4, 0, -1);
        HillBoxes v = ground();
        Desk.paper(v, 4, 2);
        v.log(1, 4, 5, 0);
        v.log(1, 4, 3, 1);
        v.log(1, 4, 10, 1);
        v.log(1, 4, 20, 0);
        falses("LOG 0 ahead of it", v, 2, 4, -1);
    }

    private static void falseInOrder() {
        HillBoxes x = new HillBoxes();
        x.finder(0);
        x.days(1);
        x.hide(0, 5, 0);
        x.hide(0, 5, 59);
        Desk.paper(x, 1);
        x.log(0, 1, 33, 0);
        x.log(0, 1, 34, 1);
        x.log(0, 1, 35, 0);
        falses("by day ahead of PAPER", x, 1, 3, -1);
        x.log(0, 2, 34, 1);
        falses("too soon ahead of by day", x, 1, 2, 3);
        x.down(1);
        falses("nowhere ahead of too soon", x, 1, 1, -1);
        falses("by day, as the other lies nowhere", x, 3, 3, -1);
    }

    private static void falseRefused() {
        HillBoxes x = ground();
        Due.be("no LOG", x.isFalse(0, 0), HillBoxes.BAD);
        x.log(0, 4, 0, 1);
        Due.be("LOG -1", x.isFalse(-1, 0), HillBoxes.BAD);
        Due.be("LOG 1", x.isFalse(1, 0), HillBoxes.BAD);
        Due.be("what 2", x.isFalse(0, 2), HillBoxes.BAD);
        Due.be("what -1", x.isFalse(0, -1), HillBoxes.BAD);
        x.hide(0, 1, 0);
        x.log(0, 5, 0, 1);
        Due.be("of one too soon", x.isFalse(0, 1), 1);
        Due.be("of one too soon, what 2", x.isFalse(0, 2), HillBoxes.BAD);
        Due.be("of one too soon, what -1", x.isFalse(0, -1), HillBoxes.BAD);
    }

    private static long[] gone(HillBoxes x, int box) {
        return new long[] {x.gone(box, 0), x.gone(box, 1), x.gone(box, 2)};
    }

    private static void gone() {
        HillBoxes x = ground();
        x.days(3);
        Due.row("no LOGS", gone(x, 4), 0, -2, -2);
        x.log(0, 4, 20, 1);
        x.log(0, 4, 19, 0);
        Due.row("a miss ahead", gone(x, 4), 0, -2, -2);
        x.log(0, 4, 50, 0);
        Due.row("1 miss", gone(x, 4), 1, -2, -2);
        x.log(0, 4, 40, 0);
        Due.row("2 misses", gone(x, 4), 1, -2, -2);
        x.log(0, 4, 60, 0);
        Due.row("3 misses", gone(x, 4), 2, 20, 40);
        x.log(0, 4, 30, 1);
        Due.row("a later find ahead of the first", gone(x, 4), 2, 30, 40);
        x.log(0, 4, 45, 1);
        Due.row("a find behind the first", gone(x, 4), 1, -2, -2);
        x.log(0, 4, 70, 1);
        Due.row("a find behind all", gone(x, 4), 0, -2, -2);
        Due.be("what 3", x.gone(4, 3), HillBoxes.BAD);
        Due.be("what -1", x.gone(4, -1), HillBoxes.BAD);
        Due.be("a finder", x.gone(0, 0), HillBoxes.BAD);
        Due.be("none", x.gone(5, 0), HillBoxes.BAD);
    }

    private static void goneWithoutFind() {
        HillBoxes x = new HillBoxes();
        x.finder(0);
        x.days(2);
        x.hide(0, 1, 33);
        x.log(0, 1, 60, 0);
        x.log(0, 1, 55, 0);
        Due.row("2 misses", gone(x, 1), 1, -2, -2);
        x.log(0, 1, 70, 0);
        Due.row("from its hiding", gone(x, 1), 2, 48, 55);
        x.log(0, 1, 5, 0);
        Due.row("all of them count", gone(x, 1), 2, 48, 5);
        x.down(1);
        Due.row("put down", gone(x, 1), 2, 48, 5);
    }

    private static void goneOfLikeMoments() {
        HillBoxes x = ground();
        x.log(0, 4, 10, 0);
        x.log(0, 4, 10, 1);
        x.log(0, 4, 10, 0);
        x.log(0, 4, 10, 0);
        Due.row("two behind by number", gone(x, 4), 1, -2, -2);
        x.log(0, 4, 10, 0);
        Due.row("three behind by number", gone(x, 4), 2, 10, 10);

        HillBoxes y = ground();
        y.log(0, 4, 0, 0);
        y.log(0, 4, 2, 0);
        y.log(0, 4, 1, 0);
        Due.row("from the first moment on", gone(y, 4), 2, 0, 0);
        HillBoxes z = ground();
        z.log(0, 4, 9, 1);
        z.log(0, 4, 3, 1);
        z.log(0, 4, 4, 0);
        z.log(0, 4, 10, 0);
        Due.row("LOG 0 is the latest found", gone(z, 4), 1, -2, -2);
        Due.be("misses behind LOG 0", z.ofBody(4, 7), 1);
    }

    private static void chance() {
        HillBoxes x = new HillBoxes();
        x.finder(0);
        x.finder(1);
        x.hide(0, 1, 0);
        x.hide(0, 1, 9);
        x.log(0, 2, 5, 1);
        x.log(0, 2, 6, 0);
        Due.be("one found", x.chance(0), 0);
        x.log(0, 3, 23, 1);
        Due.be("two found", x.chance(0), 2);
        Due.be("none too soon", x.chance(1), 0);
        x.log(1, 2, 5, 1);
        Due.be("one of another", x.chance(0), 2);
        x.log(1, 3, 6, 1);
        Due.be("two of another", x.chance(0), 4);
        Due.be("these too soon", x.chance(1), 2);
        x.log(1, 3, 23, 1);
        Due.be("three of another", x.chance(0), 5);
        Due.be("still two too soon", x.chance(1), 2);
        x.down(2);
        Due.be("all that were found", x.chance(0), 5);
        Due.be("FALSE otherwise", x.chance(1), 0);
        Due.be("what 2", x.chance(2), HillBoxes.BAD);
        Due.be("what -1", x.chance(-1), HillBoxes.BAD);
    }
}
