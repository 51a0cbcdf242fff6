/** Section 5 of the document, a sentence a test: where LOGS, PAPER, JOIN, FIRST, FALSE, GONE, CHANCE begin and end. */
final class LogEdgesTests {
    private static final int BAD = HillBoxes.BAD, NOT = HillBoxes.NOT, FULL = HillBoxes.FULL, OTHER = -12;

    public static void main(String[] args) {
        logsAre0To299();
        notBehindToday();
        foundIs1Or0();
        logsOfOneThatLeftAndOnePutDown();
        namesAre1To40();
        paperEndsWhereTheRowIsMissing();
        paperEndsWhereTheRowEnds();
        paperEndsWhereNoFinderIs();
        aPlaceBelow0();
        aRowOfOtherSorts();
        itTakesThePlaceOfWhatWasSeen();
        aNameMayStandTwice();
        sameHereThere();
        theIthByNumbers();
        firstOnPaper();
        paperWithoutANameIsAsNone();
        firstByTheLeastMoment();
        firstOfThoseThatCount();
        falseOneByItsHiding();
        falseOneByItsEnd();
        falseTwoByHours();
        falseTwoOfLikeMoments();
        falseTwoTellsTheLeastNumber();
        falseTwoByOneThatLaySomewhere();
        falseThreeByDay();
        falseFourBetweenMisses();
        falseFourOfLikeMoments();
        falseFourWithoutAName();
        theFirstThatHolds();
        falseOfALogThatSaysNotFound();
        falseIsAskedOfLogsThereAre();
        goneByThreeOrMore();
        goneFromItsHiding();
        goneOfLikeMoments();
        goneBehindTheLatestFound();
        doubtedBetweenNothing();
        chanceOf2OrMore();
        chanceOfFalseTwoAlone();
        Due.end("LogEdgesTests");
    }

    /** FINDERS 0 .. 3 and a BOX 4 at 33, on a DAY. */
    private static HillBoxes ground(int day) {
        HillBoxes x = new HillBoxes();
        if (day > 0) {
            x.days(day);
        }
        x.finder(0);
        x.finder(9);
        x.finder(50);
        x.finder(59);
        x.hide(0, 1, 33);
        return x;
    }

    // ---- LOGS

    /** "LOGS 0 .. 299, as they come"; "BAD .. FULL". */
    private static void logsAre0To299() {
        HillBoxes x = ground(0);
        for (int i = 0; i < 299; i++) {
            x.log(0, 4, i % 24, 0);
        }
        Due.be("the last LOG", x.log(1, 4, 23, 1), 299);
        Due.be("one more", x.log(1, 4, 23, 1), FULL);
        Due.be("BAD goes first", x.log(4, 4, 23, 1), BAD);
        Due.be("BAD goes first, behind TODAY", x.log(1, 4, 24, 1), BAD);
        Due.be("how many", x.count(5), 300);
        Due.be("the last one is asked for", x.isFalse(299, 0), 0);
        Due.be("one more is asked for", x.isFalse(300, 0), BAD);
        Due.be("finds", x.ofBody(4, 6), 1);
        Due.be("misses behind it", x.ofBody(4, 7), 0);
        Due.be("first", x.first(4), 1);
    }

    /** "a DAY and HOUR (not behind TODAY)". */
    private static void notBehindToday() {
        for (int day : new int[] {0, 1, 7}) {
            HillBoxes x = ground(day);
            int[] at = {Integer.MIN_VALUE, -1, 0, 24 * day, 24 * day + 23, 24 * day + 24, Integer.MAX_VALUE};
            int[] due = {BAD, BAD, 0, 1, 2, BAD, BAD};
            for (int i = 0; i < at.length; i++) {
                Due.be("log at " + at[i] + " on DAY " + day, x.log(0, 4, at[i], 1), due[i]);
            }
        }
    }

    /** "found (1) or not (0)". */
    private static void foundIs1Or0() {
        for (int found = -1; found <= 2; found++) {
            HillBoxes x = ground(0);
            Due.be("found " + found, x.log(0, 4, 5, found), found == 0 || found == 1 ? 0 : BAD);
            Due.be("finds", x.ofBody(4, 6), found == 1 ? 1 : 0);
            Due.be("misses", x.ofBody(4, 7), found == 0 ? 1 : 0);
            Due.be("LOGS", x.count(5), found == 0 || found == 1 ? 1 : 0);
        }
    }

    /** "A LOG: its number. BAD (also a moment behind TODAY); FULL": nothing else refuses one. */
    private static void logsOfOneThatLeftAndOnePutDown() {
        HillBoxes x = ground(2);
        x.leaves(0);
        x.down(4);
        Due.be("of a FINDER that LEFT", x.log(0, 4, 71, 1), 0);
        Due.be("ahead of its coming", x.log(0, 4, 0, 1), 1);
        Due.be("they are finds", x.ofBody(4, 6), 2);
    }

    // ---- PAPER

    /** "n (1 .. 40) names: how many". */
    private static void namesAre1To40() {
        HillBoxes x = ground(0);
        x.row(0, 1, 60);
        int[] n = {Integer.MIN_VALUE, -1, 0, 1, 39, 40, 41, Integer.MAX_VALUE};
        int[] due = {BAD, BAD, BAD, 1, 39, 40, BAD, BAD};
        for (int i = 0; i < n.length; i++) {
            Due.be(n[i] + " names", x.paper(4, 0, 0, n[i]), due[i]);
        }
        x.put(0, 59, 3);
        Due.be("the last of 40", x.paper(4, 0, 20, 40), 40);
        Due.be("it is on PAPER", x.join(4, 2, 1), 3);
        x.paper(4, 0, 19, 40);
        Due.be("the 41st is not", x.join(4, 2, 1), BAD);
    }

    /** "it ends where the row is missing": "a SHELF that holds nothing is missing". */
    private static void paperEndsWhereTheRowIsMissing() {
        HillBoxes x = ground(0);
        for (int shelf = -1; shelf <= 6; shelf++) {
            Due.be("from SHELF " + shelf, x.paper(4, shelf, 0, 5), shelf >= 0 && shelf <= 5 ? 0 : BAD);
        }
        x.log(1, 4, 10, 0);
        x.log(1, 4, 11, 1);
        x.log(1, 4, 12, 0);
        Due.be("it was seen all the same", x.isFalse(1, 0), 4);
    }

    /** "ends": a ROW that is shorter than asked. */
    private static void paperEndsWhereTheRowEnds() {
        for (int size : new int[] {0, 1, 2, 39, 40, 41, 60}) {
            HillBoxes x = ground(0);
            x.row(0, 1, size);
            Due.be("a ROW of " + size, x.paper(4, 0, 0, 40), Math.min(size, 40));
            Due.be("its last one", x.paper(4, 0, size - 1, 40), size == 0 ? 0 : 1);
            Due.be("behind its last one", x.paper(4, 0, size, 40), 0);
            Due.be("far behind", x.paper(4, 0, Integer.MAX_VALUE, 40), 0);
        }
    }

    /** "or holds no FINDER". */
    private static void paperEndsWhereNoFinderIs() {
        HillBoxes x = ground(0);
        x.body(6);
        x.body(0);
        int[] none = {-1, 4, 5, 6, 7, 149, 150, 32767, -32768};
        for (int name : none) {
            Due.be("the first is " + name, Desk.paper(x, 4, name, 1, 2), 0);
            Due.be("the second is " + name, Desk.paper(x, 4, 3, name, 2), 1);
            Due.be("the third is not on PAPER", x.join(4, 2, -1), 1);
        }
        x.leaves(3);
        Due.be("one that LEFT is a FINDER", Desk.paper(x, 4, 3, 0), 2);
        // shorts keep their lowest bits
        Due.be("65536 and 1 is 1", Desk.paper(x, 4, 65537), 1);
        Due.be("it is", x.first(4), 1);
    }

    /** "riddle(), paper(): a place below 0: 0 come": it takes the place of what was seen all the same. */
    private static void aPlaceBelow0() {
        for (int i : new int[] {-1, -2, -40, Integer.MIN_VALUE}) {
            HillBoxes x = ground(0);
            Desk.paper(x, 4, 3, 2, 1);
            Due.be("from " + i + " on", x.paper(4, 5, i, 3), 0);
            Due.be("no names then", x.join(4, 2, -1), 0);
            Due.be("BAD goes first", x.paper(4, 5, i, 0), BAD);
            Due.be("from a missing ROW", x.paper(4, 4, i, 3), 0);
        }
    }

    /** "BAD, -12 (no ROW of shorts ..)". */
    private static void aRowOfOtherSorts() {
        for (int sort = 0; sort <= 4; sort++) {
            HillBoxes x = ground(0);
            x.row(0, sort, 5);
            Due.be("from a ROW of sort " + sort, x.paper(4, 0, 0, 1), sort == 1 ? 1 : OTHER);
            Due.be("BAD goes first", x.paper(4, 0, 0, 41), BAD);
        }
        for (int body = 0; body < 5; body++) {
            HillBoxes x = ground(0);
            x.keep(0, body);
            Due.be("from a BODY", x.paper(4, 0, 0, 1), OTHER);
        }
    }

    /** "it takes the place of what was seen". */
    private static void itTakesThePlaceOfWhatWasSeen() {
        HillBoxes x = ground(0);
        x.hide(0, 1, 0);
        Desk.paper(x, 4, 3, 2, 1);
        Desk.paper(x, 5, 0);
        Desk.paper(x, 4, 2);
        Due.be("how many on PAPER", x.join(4, 2, -1), 1);
        Due.be("the first", x.first(4), 2);
        Due.be("of another BOX", x.first(5), 0);
        Due.be("none take its place", Desk.paper(x, 4, -1), 0);
        Due.be("nobody is on PAPER", x.join(4, 2, -1), 0);
        Due.be("of another BOX still", x.join(5, 2, 0), 0);
    }

    /** "(a name may stand twice)": it comes twice, and is one FINDER of JOIN. */
    private static void aNameMayStandTwice() {
        HillBoxes x = ground(0);
        Due.be("names", Desk.paper(x, 4, 2, 2, 1, 2), 4);
        Due.be("THERE", x.join(4, 2, -1), 2);
        x.log(2, 4, 5, 1);
        x.log(2, 4, 6, 1);
        Due.be("SAME", x.join(4, 0, -1), 1);
        Due.be("the one of SAME", x.join(4, 0, 0), 2);
        Due.be("THERE then", x.join(4, 2, -1), 1);
    }

    // ---- JOIN, FIRST

    /** "SAME: .. with a LOG found and on PAPER; HERE: with a LOG found, not on PAPER; THERE: on PAPER, no such LOG". */
    private static void sameHereThere() {
        HillBoxes x = ground(0);
        x.hide(0, 1, 0);
        Desk.paper(x, 4, 0, 1);
        x.log(0, 4, 1, 1);
        x.log(1, 4, 2, 0);
        x.log(2, 4, 3, 1);
        x.log(3, 4, 4, 0);
        x.log(3, 5, 5, 1);
        Due.be("SAME", x.join(4, 0, -1), 1);
        Due.be("SAME: who", x.join(4, 0, 0), 0);
        Due.be("HERE", x.join(4, 1, -1), 1);
        Due.be("HERE: who", x.join(4, 1, 0), 2);
        Due.be("THERE", x.join(4, 2, -1), 1);
        Due.be("THERE: who", x.join(4, 2, 0), 1);
        x.log(1, 4, 6, 1);
        Due.be("SAME, one more", x.join(4, 0, 1), 1);
        Due.be("nobody is THERE", x.join(4, 2, -1), 0);
        Due.be("of another BOX", x.join(5, 1, 0), 3);
    }

    /** "each as how many, the i-th by numbers": "(i -1)", "BAD (also none such)". */
    private static void theIthByNumbers() {
        HillBoxes x = ground(0);
        Desk.paper(x, 4, 3, 1, 2);
        int[] asked = {Integer.MIN_VALUE, -2, -1, 0, 1, 2, 3, Integer.MAX_VALUE};
        int[] due = {BAD, BAD, 3, 1, 2, 3, BAD, BAD};
        for (int k = 0; k < asked.length; k++) {
            Due.be("join " + asked[k], x.join(4, 2, asked[k]), due[k]);
            Due.be("join of none " + asked[k], x.join(4, 0, asked[k]), asked[k] == -1 ? 0 : BAD);
        }
        for (int what = -1; what <= 3; what++) {
            Due.be("join, what " + what, x.join(4, what, -1), what == 2 ? 3 : what == 0 || what == 1 ? 0 : BAD);
        }
    }

    /** "FIRST to find: the first on PAPER". */
    private static void firstOnPaper() {
        HillBoxes x = ground(0);
        x.log(1, 4, 0, 1);
        Desk.paper(x, 4, 3, 1);
        Due.be("on PAPER, without a LOG", x.first(4), 3);
        Desk.rule(x, "0", 2, 0);
        Due.be("on PAPER, though no LOG COUNTS", x.first(4), 3);
        Desk.paper(x, 4, 0);
        Due.be("FINDER 0", x.first(4), 0);
    }

    /** "PAPER seen without a name is as none in FIRST". */
    private static void paperWithoutANameIsAsNone() {
        HillBoxes x = ground(0);
        Desk.paper(x, 4);
        Due.be("nobody", x.first(4), NOT);
        x.log(2, 4, 9, 1);
        Due.be("by LOGS", x.first(4), 2);
    }

    /** "the least MOMENT, of like ones the lesser LOG's". */
    private static void firstByTheLeastMoment() {
        HillBoxes x = ground(1);
        Due.be("no LOG", x.first(4), NOT);
        x.log(3, 4, 24, 0);
        Due.be("no LOG found", x.first(4), NOT);
        x.log(2, 4, 47, 1);
        x.log(1, 4, 47, 1);
        Due.be("of like ones the lesser LOG's", x.first(4), 2);
        x.log(1, 4, 46, 1);
        Due.be("the least MOMENT", x.first(4), 1);
        x.log(0, 4, 46, 1);
        Due.be("of like ones the lesser LOG's, again", x.first(4), 1);
        x.log(0, 4, 0, 1);
        Due.be("ahead of its hiding, though that can't be", x.first(4), 0);
        HillBoxes y = ground(0);
        y.log(2, 4, 5, 1);
        y.log(3, 4, 6, 1);
        y.log(1, 4, 5, 1);
        Due.be("LOG 0", y.first(4), 2);
    }

    /** "of LOGS found that COUNT (on their DAY, AS KNOWN TODAY)". */
    private static void firstOfThoseThatCount() {
        HillBoxes x = ground(0);
        x.days(3);
        x.log(1, 4, 24 + 23, 1);
        x.log(2, 4, 48, 1);
        Desk.rule(x, "0", 2, 2);
        Due.be("a RULE from DAY 2 on, a LOG of DAY 1", x.first(4), 1);
        Desk.rule(x, "0", 2, 1);
        Due.be("a RULE from DAY 1 on", x.first(4), NOT);
        x.days(1);
        Desk.rule(x, "1", 2, 2);
        Due.be("known since TODAY, for DAY 2", x.first(4), 2);
    }

    // ---- FALSE

    private static void falses(String what, HillBoxes x, int log, int which, int other) {
        Due.be(what + ": which", x.isFalse(log, 0), which);
        Due.be(what + ": the other LOG", x.isFalse(log, 1), other);
    }

    /** "1 the BOX was not hidden yet". */
    private static void falseOneByItsHiding() {
        HillBoxes x = new HillBoxes();
        x.finder(0);
        x.days(1);
        x.hide(0, 1, 5);
        x.log(0, 1, 23, 1);
        x.log(0, 1, 24, 1);
        x.log(0, 1, 0, 1);
        falses("the HOUR ahead of its hiding", x, 0, 1, -1);
        falses("the HOUR of its hiding", x, 1, 0, -1);
        falses("the first HOUR of all", x, 2, 1, -1);
    }

    /** "or was PUT DOWN (it lies nowhere at that MOMENT)". */
    private static void falseOneByItsEnd() {
        HillBoxes x = new HillBoxes();
        x.finder(0);
        x.hide(0, 1, 5);
        x.days(2);
        x.log(0, 1, 47, 1);
        x.log(0, 1, 48, 1);
        falses("ahead of any end", x, 1, 0, -1);
        x.down(1);
        falses("the HOUR ahead of its end", x, 0, 0, -1);
        falses("the HOUR of its end", x, 1, 1, -1);
        x.log(0, 1, 71, 1);
        falses("told later", x, 2, 1, -1);
    }

    /** "fewer HOURS lie between than FAR of where they lay / 2 (up)". */
    private static void falseTwoByHours() {
        for (int far = 0; far <= 14; far++) {
            int cell = far <= 9 ? far : 9 + 10 * (far - 9);
            for (int hours = 0; hours <= 8; hours++) {
                HillBoxes x = new HillBoxes();
                x.finder(0);
                Desk.rule(x, "0", 0, 0);
                x.hide(0, 1, 0);
                x.hide(0, 1, cell);
                x.log(0, 1, 10, 1);
                x.log(0, 2, 10 + hours, 1);
                boolean tooSoon = hours < (far + 1) / 2;
                falses("FAR " + far + " in " + hours, x, 0, tooSoon ? 2 : 0, tooSoon ? 1 : -1);
                falses("FAR " + far + " in " + hours + ", back", x, 1, tooSoon ? 2 : 0, tooSoon ? 0 : -1);
            }
        }
    }

    /** HOURS that lie between two of one MOMENT are 0: fewer than any way takes, but not than none. */
    private static void falseTwoOfLikeMoments() {
        HillBoxes x = ground(0);
        x.hide(0, 1, 35);
        x.log(0, 4, 10, 1);
        x.log(0, 4, 10, 1);
        falses("the same BOX twice", x, 1, 0, -1);
        x.log(1, 5, 10, 1);
        falses("of another FINDER", x, 2, 0, -1);
        x.log(0, 5, 10, 1);
        falses("of the same FINDER", x, 3, 2, 0);
        falses("of the same FINDER, back", x, 0, 2, 3);
        x.log(1, 4, 10, 0);
        falses("one that says not found", x, 2, 0, -1);
    }

    /** "(that LOG told: the least number)". */
    private static void falseTwoTellsTheLeastNumber() {
        HillBoxes x = new HillBoxes();
        x.finder(0);
        x.hide(0, 1, 0);
        x.hide(0, 1, 59);
        x.log(0, 1, 0, 1);
        x.log(0, 2, 23, 1);
        x.log(0, 1, 20, 1);
        x.log(0, 2, 18, 1);
        falses("by 2 and 3, neither by 0", x, 1, 2, 2);
        falses("by 1 and 3", x, 2, 2, 1);
        falses("by 2 alone", x, 3, 2, 2);
        falses("by none", x, 0, 0, -1);
        x.log(0, 2, 1, 1);
        falses("by the latest number", x, 0, 2, 4);
    }

    /** "by another LOG found of that FINDER (whose BOX lies somewhere then)". */
    private static void falseTwoByOneThatLaySomewhere() {
        HillBoxes x = new HillBoxes();
        x.finder(0);
        x.hide(0, 1, 0);
        x.days(1);
        x.hide(0, 1, 59);
        x.log(0, 1, 24, 1);
        x.log(0, 2, 23, 1);
        falses("another one that was not hidden yet", x, 0, 0, -1);
        x.log(0, 2, 24, 1);
        falses("another one in the HOUR of its hiding", x, 0, 2, 2);
        x.down(2);
        falses("another one that was PUT DOWN", x, 0, 0, -1);
    }

    /** "3 of NIGHT ones: by day": "HOURS 20 .. 23, 0 .. 5 alone". */
    private static void falseThreeByDay() {
        for (int kind = 1; kind <= 5; kind++) {
            HillBoxes x = new HillBoxes();
            x.finder(0);
            x.step(30);
            x.hide(0, kind, 30);
            for (int hour = 0; hour < 24; hour++) {
                x.log(0, 1, hour, 1);
                boolean byDay = kind == 5 && hour >= 6 && hour <= 19;
                falses("KIND " + kind + " at " + hour, x, hour, byDay ? 3 : 0, -1);
            }
        }
    }

    /** "the next LOGS of that BOX ahead of it and behind it (by MOMENTS ..) both say not found". */
    private static void falseFourBetweenMisses() {
        for (int ahead = -1; ahead <= 1; ahead++) {
            for (int behind = -1; behind <= 1; behind++) {
                HillBoxes x = ground(0);
                Desk.paper(x, 4, 0);
                x.log(1, 4, 10, 1);
                if (ahead >= 0) {
                    x.log(2, 4, 1, 0);
                    x.log(2, 4, 8, ahead);
                }
                if (behind >= 0) {
                    x.log(3, 4, 13, behind);
                    x.log(3, 4, 20, 0);
                }
                String what = "ahead " + ahead + ", behind " + behind;
                falses(what, x, 0, ahead == 0 && behind == 0 ? 4 : 0, -1);
                Desk.paper(x, 4, 0, 1);
                falses(what + ", on PAPER", x, 0, 0, -1);
            }
        }
    }

    /** "of like ones by number". */
    private static void falseFourOfLikeMoments() {
        HillBoxes x = ground(0);
        Desk.paper(x, 4, 0);
        x.log(2, 4, 10, 0);
        x.log(1, 4, 10, 1);
        x.log(2, 4, 10, 0);
        falses("between two of one MOMENT", x, 1, 4, -1);
        x.log(2, 4, 10, 1);
        falses("one found behind all of them", x, 1, 4, -1);
        falses("that one: none is behind it", x, 3, 0, -1);
        x.log(2, 4, 10, 0);
        falses("that one between misses", x, 3, 4, -1);
        HillBoxes y = ground(0);
        Desk.paper(y, 4, 0);
        y.log(1, 4, 10, 1);
        y.log(1, 4, 10, 0);
        y.log(1, 4, 10, 0);
        falses("none ahead of it", y, 0, 0, -1);
        for (int ofLog0 = 0; ofLog0 <= 1; ofLog0++) {
            HillBoxes z = ground(0);
            Desk.paper(z, 4, 0);
            z.log(2, 4, 12, ofLog0);
            z.log(1, 4, 10, 1);
            z.log(2, 4, 8, 0);
            z.log(2, 4, 20, 1 - ofLog0);
            falses("LOG 0 is the next one behind it", z, 1, ofLog0 == 0 ? 4 : 0, -1);
            HillBoxes w = ground(0);
            Desk.paper(w, 4, 0);
            w.log(2, 4, 8, ofLog0);
            w.log(1, 4, 10, 1);
            w.log(2, 4, 12, 0);
            w.log(2, 4, 3, 1 - ofLog0);
            falses("LOG 0 is the next one ahead of it", w, 1, ofLog0 == 0 ? 4 : 0, -1);
        }
    }

    /** "(Without a name it was seen all the same.)"; without PAPER nobody is missed on it. */
    private static void falseFourWithoutAName() {
        HillBoxes x = ground(0);
        x.hide(0, 1, 0);
        x.log(1, 4, 9, 0);
        x.log(1, 4, 10, 1);
        x.log(1, 4, 11, 0);
        falses("PAPER was not seen", x, 1, 0, -1);
        Desk.paper(x, 5);
        falses("PAPER of another BOX", x, 1, 0, -1);
        x.paper(4, 4, 0, 1);
        falses("PAPER without a name", x, 1, 4, -1);
        Desk.paper(x, 4, 0);
        falses("another name", x, 1, 4, -1);
        Desk.paper(x, 4, 1);
        falses("its name", x, 1, 0, -1);
    }

    /** "The first that holds". */
    private static void theFirstThatHolds() {
        HillBoxes x = new HillBoxes();
        x.finder(0);
        x.hide(0, 5, 0);
        x.hide(0, 1, 59);
        Desk.paper(x, 1);
        x.days(1);
        x.log(0, 1, 24 + 9, 0);
        x.log(0, 1, 24 + 10, 1);
        x.log(0, 1, 24 + 11, 0);
        falses("3 and 4", x, 1, 3, -1);
        x.log(0, 2, 24 + 10, 1);
        falses("2, 3 and 4", x, 1, 2, 3);
        x.down(1);
        falses("1, 3 and 4", x, 1, 1, -1);
        HillBoxes y = new HillBoxes();
        y.finder(0);
        y.hide(0, 5, 0);
        y.hide(0, 1, 59);
        Desk.paper(y, 1);
        y.log(0, 1, 2, 0);
        y.log(0, 1, 3, 1);
        y.log(0, 1, 4, 0);
        falses("4 alone", y, 1, 4, -1);
        y.log(0, 2, 3, 1);
        falses("2 and 4", y, 1, 2, 3);
    }

    /** "FALSE is a LOG found": one that says not found is none of them. */
    private static void falseOfALogThatSaysNotFound() {
        HillBoxes x = new HillBoxes();
        x.finder(0);
        x.days(1);
        x.hide(0, 5, 0);
        x.log(0, 1, 0, 0);
        x.log(0, 1, 24 + 12, 0);
        falses("ahead of its hiding", x, 0, 0, -1);
        falses("by day", x, 1, 0, -1);
    }

    /** "which (what 0), by 2 the other LOG (1; -1 else). BAD". */
    private static void falseIsAskedOfLogsThereAre() {
        HillBoxes x = ground(0);
        Due.be("LOG 0 ahead of all", x.isFalse(0, 0), BAD);
        x.log(0, 4, 0, 1);
        for (int log : new int[] {Integer.MIN_VALUE, -1, 0, 1, 299, 300, Integer.MAX_VALUE}) {
            Due.be("LOG " + log, x.isFalse(log, 0), log == 0 ? 0 : BAD);
        }
        for (int what = -1; what <= 2; what++) {
            Due.be("what " + what, x.isFalse(0, what), what == 0 ? 0 : what == 1 ? -1 : BAD);
        }
        x.hide(0, 1, 0);
        x.log(0, 5, 0, 1);
        for (int what = -1; what <= 2; what++) {
            Due.be("what " + what + " of one by 2", x.isFalse(0, what), what == 0 ? 2 : what == 1 ? 1 : BAD);
        }
    }

    // ---- GONE

    private static void gone(String what, HillBoxes x, int how, int from, int to) {
        Due.row(what, new long[] {x.gone(4, 0), x.gone(4, 1), x.gone(4, 2)}, how, from, to);
    }

    /** "SURELY GONE .. if behind the latest found 3 or more say not found"; "DOUBTED: 1 or 2 of them". */
    private static void goneByThreeOrMore() {
        HillBoxes x = ground(0);
        x.log(0, 4, 5, 1);
        gone("0 misses", x, 0, NOT, NOT);
        x.log(0, 4, 8, 0);
        gone("1 miss", x, 1, NOT, NOT);
        x.log(0, 4, 7, 0);
        gone("2 misses", x, 1, NOT, NOT);
        x.log(0, 4, 9, 0);
        gone("3 misses", x, 2, 5, 7);
        x.log(0, 4, 6, 0);
        gone("4 misses", x, 2, 5, 6);
        for (int what : new int[] {-1, 3, Integer.MAX_VALUE, Integer.MIN_VALUE}) {
            Due.be("what " + what, x.gone(4, what), BAD);
        }
    }

    /** "from that found one (or its hiding)": "Without a latest found all LOGS that say not found count". */
    private static void goneFromItsHiding() {
        HillBoxes x = ground(2);
        x.log(0, 4, 70, 0);
        x.log(0, 4, 3, 0);
        gone("2 misses", x, 1, NOT, NOT);
        x.log(0, 4, 71, 0);
        gone("3 misses, one ahead of its hiding", x, 2, 48, 3);
        x.log(0, 4, 0, 1);
        gone("a find ahead of all", x, 2, 0, 3);
        HillBoxes y = ground(0);
        for (int i = 0; i < 3; i++) {
            y.log(0, 4, 0, 0);
        }
        gone("hidden on DAY 0, missed in HOUR 0", y, 2, 0, 0);
        HillBoxes z = ground(0);
        for (int i = 0; i < 3; i++) {
            z.log(0, 4, i, 0);
        }
        gone("missed in HOURS 0, 1, 2", z, 2, 0, 0);
    }

    /** "(of like ones by number)". */
    private static void goneOfLikeMoments() {
        HillBoxes x = ground(0);
        for (int i = 0; i < 3; i++) {
            x.log(0, 4, 7, 0);
        }
        gone("3 misses", x, 2, 0, 7);
        x.log(0, 4, 7, 1);
        gone("a find behind them by number", x, 0, NOT, NOT);
        for (int i = 0; i < 3; i++) {
            x.log(0, 4, 7, 0);
        }
        gone("3 misses behind it by number", x, 2, 7, 7);
    }

    /** "behind the latest found": by MOMENTS, not as they came. */
    private static void goneBehindTheLatestFound() {
        HillBoxes x = ground(0);
        for (int hour = 10; hour < 15; hour++) {
            x.log(0, 4, hour, 0);
        }
        gone("5 misses", x, 2, 0, 10);
        x.log(0, 4, 9, 1);
        gone("a find ahead of all", x, 2, 9, 10);
        x.log(0, 4, 11, 1);
        gone("a find behind 2", x, 2, 11, 12);
        x.log(0, 4, 12, 1);
        gone("a find behind 3", x, 1, NOT, NOT);
        x.log(0, 4, 3, 1);
        gone("a find ahead changes nothing", x, 1, NOT, NOT);
        x.log(0, 4, 14, 1);
        gone("a find behind all", x, 0, NOT, NOT);
        HillBoxes y = ground(0);
        y.log(0, 4, 9, 1);
        y.log(0, 4, 3, 1);
        for (int i = 0; i < 3; i++) {
            y.log(0, 4, 5, 0);
            gone("between LOG 1 and LOG 0, the latest found", y, 0, NOT, NOT);
        }
        for (int i = 0; i < 3; i++) {
            y.log(0, 4, 10 + i, 0);
        }
        gone("behind LOG 0", y, 2, 9, 10);
    }

    /** "GONE: what 1, 2 of one that is DOUBTED: NOT". */
    private static void doubtedBetweenNothing() {
        HillBoxes x = ground(0);
        Due.be("of one without LOGS", x.gone(4, 1), NOT);
        x.log(0, 4, 5, 0);
        Due.be("DOUBTED", x.gone(4, 0), 1);
        Due.be("from", x.gone(4, 1), NOT);
        Due.be("to", x.gone(4, 2), NOT);
        Due.be("a BODY that is no BOX", x.gone(3, 1), BAD);
    }

    // ---- CHANCE

    /** "of FINDERS with 2 LOGS found or more: how many LOGS found by them there are". */
    private static void chanceOf2OrMore() {
        HillBoxes x = ground(0);
        Due.be("no LOGS", x.chance(0), 0);
        x.log(0, 4, 1, 1);
        Due.be("1 found", x.chance(0), 0);
        x.log(0, 4, 2, 0);
        Due.be("1 found, 1 not", x.chance(0), 0);
        x.log(1, 4, 3, 1);
        Due.be("1 found of each", x.chance(0), 0);
        x.log(0, 4, 4, 1);
        Due.be("2 found of one", x.chance(0), 2);
        x.log(0, 4, 5, 1);
        Due.be("3 found of one", x.chance(0), 3);
        x.log(1, 4, 6, 1);
        Due.be("2 found of the other", x.chance(0), 5);
        for (int what : new int[] {-1, 2, Integer.MAX_VALUE, Integer.MIN_VALUE}) {
            Due.be("what " + what, x.chance(what), BAD);
        }
    }

    /** "how many of these are FALSE (2)": no other way of being FALSE. */
    private static void chanceOfFalseTwoAlone() {
        HillBoxes x = new HillBoxes();
        x.finder(0);
        x.hide(0, 5, 0);
        x.hide(0, 1, 59);
        x.log(0, 1, 0, 1);
        x.log(0, 1, 12, 1);
        Due.be("FALSE by day", x.chance(1), 0);
        x.log(0, 2, 6, 1);
        Due.be("two too soon: FAR 14 in 6 HOURS, from both", x.chance(1), 3);
        x.down(2);
        Due.be("those that lay nowhere", x.chance(1), 0);
        Due.be("all that were found", x.chance(0), 3);
    }
}
