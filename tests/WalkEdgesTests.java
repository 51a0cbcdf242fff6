/** Section 7 of the document up to RANK, a sentence a test: where walks, what nobody found and ranks begin and end. */
final class WalkEdgesTests {
    private static final int BAD = HillBoxes.BAD, NOT = HillBoxes.NOT, FULL = HillBoxes.FULL, BIG = HillBoxes.BIG;

    public static void main(String[] args) {
        wishesAre1To7();
        worthIs1To99();
        hoursTakenAre0To9();
        toldOrPutDown();
        fromACellAtAnHour();
        by1To48HoursMore();
        backThereInTime();
        halfOfFarUp();
        nightOnesBegin();
        nightOnesMayEndByDay();
        aWaitThatIsTooLong();
        theGreatestWorth();
        theFewestHours();
        theFirstPlaceByPlace();
        noneToldAndNoneFound();
        thoseToldAreNoneThen();
        aWishPutDownStaysTold();
        allLieWhereTheyLieNow();
        hoursAndBoxesOfTheLatest();
        judgedAreDigitsOfPlaces();
        judgedLikewise();
        judgedAgain();
        lookedAtThereOrGone();
        lookAtIsRefused();
        allThatWereEverLookedAt();
        nobodyIsOfThoseNow();
        boundWithoutAnyLookedAt();
        boundOfAll();
        boundAtFiveOfAHundred();
        above30IsBig();
        rankOnDayDOrAhead();
        rankOfThoseThatCountAndAreNotFalse();
        aBoxIsFoundOnce();
        likeOnesShareThePlace();
        besideARule();
        rankIsRefused();
        Due.end("WalkEdgesTests");
    }

    /** A FINDER 0 and BOXES 1 .. 8 at 0, 3, 6, 9, 50, 53, 56, 59. */
    private static HillBoxes ground() {
        HillBoxes x = new HillBoxes();
        x.finder(22);
        for (int i = 0; i < 8; i++) {
            x.hide(0, 1, i / 4 * 50 + i % 4 * 3);
        }
        return x;
    }

    // ---- wishes

    /** "BOXES told (1 .. 7)"; "FULL: 7". */
    private static void wishesAre1To7() {
        HillBoxes x = ground();
        for (int i = 1; i <= 7; i++) {
            Due.be("wish " + i, x.wish(i, i, 0), i);
        }
        Due.be("wish 8", x.wish(8, 1, 0), FULL);
        Due.be("BAD goes first: worth", x.wish(8, 0, 0), BAD);
        Due.be("BAD goes first: hours", x.wish(8, 1, 10), BAD);
        Due.be("BAD goes first: told", x.wish(7, 1, 0), BAD);
        Due.be("seven places", x.judge(0, 48, 7654321) > 0 ? 1 : 0, 1);
        Due.be("an eighth", x.judge(0, 48, 8), BAD);
        Due.be("all of them", x.walk(0, 48), 28);
        Due.be("the first of the next", x.wish(8, 1, 0), 1);
    }

    /** "with a worth (1 .. 99)". */
    private static void worthIs1To99() {
        for (int worth : new int[] {Integer.MIN_VALUE, -1, 0, 1, 99, 100, Integer.MAX_VALUE}) {
            HillBoxes x = ground();
            boolean good = worth == 1 || worth == 99;
            Due.be("worth " + worth, x.wish(1, worth, 0), good ? 1 : BAD);
            Due.be("its walk", x.walk(0, 1), good ? worth : NOT);
        }
    }

    /** "hours each takes there (0 .. 9)". */
    private static void hoursTakenAre0To9() {
        for (int hours : new int[] {Integer.MIN_VALUE, -1, 0, 9, 10, Integer.MAX_VALUE}) {
            HillBoxes x = ground();
            boolean good = hours == 0 || hours == 9;
            Due.be("hours " + hours, x.wish(1, 5, hours), good ? 1 : BAD);
            Due.be("its walk", x.walk(0, 48), good ? 5 : NOT);
            Due.be("its HOURS", x.walked(-1), good ? hours : BAD);
        }
    }

    /** "BAD (PUT DOWN, told, worth, hours)". */
    private static void toldOrPutDown() {
        HillBoxes x = ground();
        x.down(2);
        Due.be("PUT DOWN", x.wish(2, 1, 0), BAD);
        Due.be("told", x.wish(1, 1, 0), 1);
        Due.be("told again", x.wish(1, 2, 1), BAD);
        x.log(0, 3, 0, 1);
        Due.be("one that was found", x.wish(3, 1, 0), 2);
        for (int box : new int[] {-1, 0, 9, 150}) {
            Due.be("wish of " + box, x.wish(box, 1, 0), BAD);
        }
    }

    // ---- WALK

    /** "from a CELL at an HOUR on": "at: 24 CELL and HOUR". */
    private static void fromACellAtAnHour() {
        int[] at = {Integer.MIN_VALUE, -1, 0, 24 * 60 - 1, 24 * 60, Integer.MAX_VALUE};
        for (int from : at) {
            HillBoxes x = ground();
            x.wish(1, 5, 0);
            boolean good = from == 0 || from == 24 * 60 - 1;
            Due.be("judge at " + from, x.judge(from, 48, 1), !good ? BAD : from == 0 ? 0 : 14);
            Due.be("walk at " + from, x.walk(from, 48), good ? 5 : BAD);
        }
        HillBoxes x = ground();
        x.wish(1, 5, 0);
        Due.be("CELL 0, HOUR 23", x.judge(23, 48, 1), 0);
        Due.be("CELL 1, HOUR 0", x.judge(24, 48, 1), 2);
        Due.be("CELL 59, HOUR 0", x.judge(24 * 59, 48, 1), 14);
    }

    /** "by so many HOURS more (1 .. 48)". */
    private static void by1To48HoursMore() {
        for (int hours : new int[] {Integer.MIN_VALUE, -1, 0, 1, 48, 49, Integer.MAX_VALUE}) {
            HillBoxes x = ground();
            x.wish(1, 5, 1);
            boolean good = hours == 1 || hours == 48;
            Due.be("judge by " + hours, x.judge(0, hours, 1), good ? 1 : BAD);
            Due.be("walk by " + hours, x.walk(0, hours), good ? 5 : BAD);
        }
        HillBoxes x = ground();
        for (int i = 1; i <= 5; i++) {
            x.wish(i, 1, 9);
        }
        // 45 there, and 3 on the way: 0 .. 3 and back are 4
        Due.be("five take too long", x.judge(0, 48, 12345), NOT);
        x.walk(0, 48);
        Due.be("four are fine", x.walked(4), BAD);
        Due.be("the fourth", x.walked(3) > 0 ? 1 : 0, 1);
    }

    /** "back there by so many HOURS": just in time, and one less. */
    private static void backThereInTime() {
        for (int hours = 10; hours <= 14; hours++) {
            HillBoxes x = ground();
            x.wish(4, 7, 2);
            Due.be("judge by " + hours, x.judge(0, hours, 1), hours >= 12 ? 12 : NOT);
            Due.be("walk by " + hours, x.walk(0, hours), hours >= 12 ? 7 : NOT);
            Due.be("its HOURS", x.walked(-1), hours >= 12 ? 12 : BAD);
        }
    }

    /** "FAR / 2 (up) hours from one to the next". */
    private static void halfOfFarUp() {
        for (int cell = 0; cell < 60; cell++) {
            HillBoxes x = ground();
            x.wish(1, 5, 0);
            int far = cell % 10 + cell / 10;
            Due.be("from " + cell, x.judge(24 * cell, 48, 1), 2 * ((far + 1) / 2));
        }
        HillBoxes x = ground();
        x.wish(1, 5, 0);
        x.wish(2, 5, 0);
        Due.be("FAR 3 from one to the next: each way up alone", x.judge(0, 48, 12), 2 + 2);
    }

    /** A NIGHT BOX 1 at 9 and a BOX 2 at 0, both told. */
    private static HillBoxes night(int hours) {
        HillBoxes x = new HillBoxes();
        x.finder(0);
        x.hide(0, 5, 9);
        x.hide(0, 1, 0);
        x.wish(1, 50, hours);
        x.wish(2, 1, 0);
        return x;
    }

    /** "a NIGHT one can be begun in its HOURS alone (wait is allowed)": 20 .. 23, 0 .. 5. */
    private static void nightOnesBegin() {
        for (int hour = 0; hour < 24; hour++) {
            HillBoxes x = night(0);
            // at the BOX itself, without a way
            int wait = hour >= 6 && hour <= 19 ? 20 - hour : 0;
            Due.be("there at " + hour, x.judge(24 * 9 + hour, 48, 1), wait);
            // 5 HOURS away
            int come = (hour + 5) % 24;
            int waitThere = come >= 6 && come <= 19 ? 20 - come : 0;
            Due.be("from 0 at " + hour, x.judge(hour, 48, 1), 5 + waitThere + 5);
            Due.be("another one at " + hour, x.judge(hour, 48, 2), 0);
            Due.be("walk from 0 at " + hour, x.walk(hour, 10 + waitThere), 51);
            Due.be("its HOURS", x.walked(-1), 10 + waitThere);
        }
    }

    /** It is begun in its HOURS: what it takes there may go on by day. */
    private static void nightOnesMayEndByDay() {
        HillBoxes x = night(9);
        Due.be("begun at 5, ended at 14", x.judge(24 * 9 + 5, 48, 1), 9);
        Due.be("begun at 20", x.judge(24 * 9 + 6, 48, 1), 14 + 9);
        Due.be("begun at 23, over midnight", x.judge(24 * 9 + 23, 48, 1), 9);
        HillBoxes two = new HillBoxes();
        two.finder(0);
        two.hide(0, 5, 9);
        two.hide(0, 5, 7);
        two.wish(1, 1, 5);
        two.wish(2, 1, 9);
        Due.be("one after the other by night", two.judge(24 * 9 + 21, 48, 12), 5 + 1 + 9 + 1);
        Due.be("the second one waits a DAY", two.judge(24 * 7 + 21, 48, 21), 9 + 1 + 13 + 5 + 1);
    }

    /** The wait counts: one HOUR less, and it does not hold. */
    private static void aWaitThatIsTooLong() {
        HillBoxes x = night(0);
        Due.be("judge by 14", x.judge(24 * 9 + 6, 14, 1), 14);
        Due.be("judge by 13", x.judge(24 * 9 + 6, 13, 1), NOT);
        Due.be("walk by 13: the other one alone", x.walk(24 * 9 + 6, 13), 1);
        x.wish(1, 50, 0);
        Due.be("walk by 13", x.walk(24 * 9 + 6, 13), NOT);
        Due.be("walk by 14", x.walk(24 * 9 + 6, 14), 50);
    }

    /** "the row of the greatest worth". */
    private static void theGreatestWorth() {
        HillBoxes x = ground();
        x.wish(1, 49, 9);
        x.wish(2, 50, 9);
        x.wish(8, 99, 0);
        // 8 alone in 14; 1 and 2 in 9 + 2 + 9 + 2 = 22; 8 with one of them in more
        Due.be("one of 99, by 22", x.walk(0, 22), 99);
        Due.be("the one", x.walked(0), 8);
        Due.be("the fewest HOURS of 99", x.walked(-1), 14);
        x.wish(1, 50, 9);
        x.wish(2, 50, 9);
        x.wish(8, 99, 0);
        Due.be("two of 50, by 22", x.walk(0, 22), 100);
        Due.be("the first of two", x.walked(0), 1);
    }

    /** "of like ones the fewest HOURS in all". */
    private static void theFewestHours() {
        HillBoxes x = ground();
        x.wish(4, 9, 0);
        x.wish(2, 9, 7);
        // 4 in 10; 2 in 2 + 7 + 2 = 11
        Due.be("one of two alike", x.walk(0, 13), 9);
        Due.be("the fewest", x.walked(0), 4);
        x.wish(4, 9, 0);
        x.wish(2, 9, 5);
        Due.be("one of two alike, again", x.walk(0, 13), 9);
        Due.be("the fewest, though told later", x.walked(0), 2);
        Due.be("its HOURS", x.walked(-1), 9);
    }

    /** "WALK: of like ones the first, place by place". */
    private static void theFirstPlaceByPlace() {
        int[][] orders = {{4, 5, 8}, {8, 5, 4}, {5, 8, 4}};
        long[][] rows = {{4, 8, 5}, {5, 8, 4}, {5, 8, 4}};
        for (int k = 0; k < 3; k++) {
            HillBoxes x = ground();
            for (int box : orders[k]) {
                x.wish(box, 1, 0);
            }
            Due.be("worth", x.walk(0, 48), 3);
            Due.row("row told in order " + k, new long[] {x.walked(0), x.walked(1), x.walked(2)}, rows[k]);
        }
        HillBoxes x = ground();
        x.wish(5, 5, 1);
        x.wish(2, 5, 2);
        x.wish(1, 5, 9);
        // 5 in 3 + 1 + 3 = 7; 2 in 2 + 2 + 2 = 6; 1 in 9
        Due.be("by 6", x.walk(0, 6), 5);
        Due.be("the only one by 6", x.walked(0), 2);
        HillBoxes y = ground();
        y.wish(3, 5, 0);
        y.wish(5, 5, 0);
        Due.be("of two in 6 HOURS each", y.walk(0, 6), 5);
        Due.be("the first told", y.walked(0), 3);
    }

    /** "NOT: none (worth 0)"; "NOT (they stay; also if none is told)". */
    private static void noneToldAndNoneFound() {
        HillBoxes x = ground();
        Due.be("none told", x.walk(0, 48), NOT);
        Due.be("BAD goes first", x.walk(0, 49), BAD);
        x.wish(2, 5, 0);
        Due.be("none found", x.walk(0, 3), NOT);
        Due.be("they stay", x.wish(2, 5, 0), BAD);
        Due.be("no walk was found yet", x.walked(-1), BAD);
        Due.be("found", x.walk(0, 4), 5);
    }

    /** "those told are none then". */
    private static void thoseToldAreNoneThen() {
        HillBoxes x = ground();
        x.wish(1, 5, 0);
        x.wish(8, 5, 9);
        Due.be("one of two is walked to", x.walk(0, 1), 5);
        Due.be("none is told, the other neither", x.walk(0, 48), NOT);
        Due.be("told anew", x.wish(8, 5, 9), 1);
        Due.be("judged by its place now", x.judge(24 * 59, 48, 1), 9);
        Due.be("the second place is none", x.judge(24 * 59, 48, 2), BAD);
    }

    /** "A wish that is PUT DOWN stays told". */
    private static void aWishPutDownStaysTold() {
        HillBoxes x = ground();
        x.wish(2, 5, 0);
        x.down(2);
        Due.be("told", x.wish(2, 5, 0), BAD);
        Due.be("judged where it lay", x.judge(0, 48, 1), 4);
        Due.be("walked to where it lay", x.walk(0, 48), 5);
        Due.be("it is told no more", x.wish(2, 5, 0), BAD);
    }

    /** "(All lie where they lie now.)". */
    private static void allLieWhereTheyLieNow() {
        HillBoxes x = new HillBoxes();
        x.finder(0);
        x.hide(0, 4, 9);
        x.step(9);
        x.step(3);
        x.hide(0, 3, 59);
        x.wish(1, 5, 0);
        x.wish(2, 5, 0);
        Due.be("a WANDERING one", x.judge(0, 48, 1), 10);
        Due.be("a MANY at its last STEP", x.judge(0, 48, 2), 4);
        x.move(1, 1, 23);
        Due.be("moved in a late HOUR", x.judge(0, 48, 1), 2);
        Due.be("both", x.judge(0, 48, 12), 1 + 1 + 2);
    }

    /** "HOURS of the latest walk() that found one (what -1), the i-th BOX. BAD". */
    private static void hoursAndBoxesOfTheLatest() {
        HillBoxes x = ground();
        int[] asked = {Integer.MIN_VALUE, -2, -1, 0, 1, 2, 7, Integer.MAX_VALUE};
        for (int what : asked) {
            Due.be("no walk yet: " + what, x.walked(what), BAD);
        }
        x.wish(2, 5, 1);
        x.wish(1, 5, 1);
        x.walk(0, 48);
        int[] due = {BAD, BAD, 6, 2, 1, BAD, BAD, BAD};
        for (int k = 0; k < asked.length; k++) {
            Due.be("walked " + asked[k], x.walked(asked[k]), due[k]);
        }
        x.wish(8, 5, 9);
        Due.be("one that found none", x.walk(0, 1), NOT);
        Due.be("the latest that found one", x.walked(-1), 6);
        x.walk(24 * 59, 48);
        Due.be("the next one", x.walked(-1), 9);
        Due.be("its BOX", x.walked(0), 8);
        Due.be("the second BOX of the one ahead", x.walked(1), BAD);
    }

    // ---- JUDGED

    /** "a row (digits: places told and 1, the first one the highest)"; "BAD (no such digits, one twice ..)". */
    private static void judgedAreDigitsOfPlaces() {
        HillBoxes x = ground();
        Due.be("none told", x.judge(0, 48, 1), BAD);
        x.wish(1, 5, 0);
        x.wish(2, 5, 0);
        x.wish(4, 5, 0);
        int[] bad = {Integer.MIN_VALUE, -1, -123, 0, 4, 9, 10, 20, 100, 11, 22, 121, 1213, 14, 41, 102, 1234, 33, 1231,
            99999999, Integer.MAX_VALUE};
        for (int row : bad) {
            Due.be("row " + row, x.judge(0, 48, row), BAD);
        }
        int[] good = {1, 2, 3, 12, 13, 23, 32, 123, 321, 213};
        int[] hours = {0, 4, 10, 4, 10, 2 + 3 + 5, 10, 10, 10, 2 + 2 + 5 + 5};
        for (int k = 0; k < good.length; k++) {
            Due.be("row " + good[k], x.judge(0, 48, good[k]), hours[k]);
        }
    }

    /** "likewise: HOURS; NOT": "those told stay". */
    private static void judgedLikewise() {
        HillBoxes x = ground();
        x.wish(4, 5, 1);
        x.wish(8, 5, 2);
        Due.be("by 18", x.judge(0, 18, 12), 5 + 1 + 3 + 2 + 7);
        Due.be("by 17", x.judge(0, 17, 12), NOT);
        Due.be("they stay", x.wish(4, 5, 1), BAD);
        Due.be("the walk that is found", x.walk(0, 18), 10);
    }

    /** A row that is none is refused behind one that holds, too. */
    private static void judgedAgain() {
        HillBoxes x = ground();
        x.wish(1, 5, 0);
        x.wish(2, 5, 0);
        Due.be("a row", x.judge(0, 48, 12), 4);
        Due.be("no digits", x.judge(0, 48, 0), BAD);
        Due.be("a number below 0", x.judge(0, 48, -12), BAD);
        Due.be("a row of one", x.judge(0, 48, 2), 4);
        Due.be("a row again", x.judge(24 * 59, 48, 21), 6 + 2 + 7);
    }

    // ---- NOBODY FOUND

    /** "there (0), gone (1): how many were". */
    private static void lookedAtThereOrGone() {
        for (int gone = -1; gone <= 2; gone++) {
            HillBoxes x = ground();
            boolean good = gone == 0 || gone == 1;
            Due.be("gone " + gone, x.lookAt(1, gone), good ? 1 : BAD);
            Due.be("looked at", x.nobody(1), good ? 1 : 0);
            Due.be("gone ones", x.nobody(2), gone == 1 ? 1 : 0);
        }
    }

    /** "NOT: somebody found it, it is PUT DOWN, or it was". */
    private static void lookAtIsRefused() {
        HillBoxes x = ground();
        x.log(0, 1, 0, 1);
        x.log(0, 2, 0, 0);
        x.down(3);
        Due.be("somebody found it", x.lookAt(1, 0), NOT);
        Due.be("a LOG says not found", x.lookAt(2, 0), 1);
        Due.be("PUT DOWN", x.lookAt(3, 0), NOT);
        Due.be("it was", x.lookAt(2, 1), NOT);
        Due.be("it stays there", x.nobody(2), 0);
        Due.be("BAD goes first", x.lookAt(1, 2), BAD);
        // a find that can't be is one all the same
        x.days(1);
        x.hide(0, 1, 33);
        x.log(0, 9, 0, 1);
        Due.be("a find that is FALSE", x.isFalse(2, 0), 1);
        Due.be("somebody found it so", x.lookAt(9, 0), NOT);
    }

    /** "lookAt() counts all that were ever LOOKED AT". */
    private static void allThatWereEverLookedAt() {
        HillBoxes x = ground();
        x.lookAt(1, 0);
        x.lookAt(2, 1);
        x.log(0, 1, 0, 1);
        x.down(2);
        Due.be("one found, one PUT DOWN since", x.lookAt(3, 0), 3);
        Due.be("of those now", x.nobody(1), 1);
    }

    /** "(Of those now without a find, not PUT DOWN.)": "n (what 0), c (1), w (2), BOUND (3). BAD". */
    private static void nobodyIsOfThoseNow() {
        HillBoxes x = ground();
        x.lookAt(1, 1);
        x.lookAt(2, 1);
        x.lookAt(3, 0);
        Due.row("all", new long[] {x.nobody(0), x.nobody(1), x.nobody(2)}, 8, 3, 2);
        x.log(0, 1, 0, 1);
        Due.row("one that was gone is found", new long[] {x.nobody(0), x.nobody(1), x.nobody(2)}, 7, 2, 1);
        x.down(3);
        Due.row("one that was there is PUT DOWN", new long[] {x.nobody(0), x.nobody(1), x.nobody(2)}, 6, 1, 1);
        x.log(0, 5, 0, 0);
        Due.be("one is missed", x.nobody(0), 6);
        for (int what : new int[] {Integer.MIN_VALUE, -1, 4, Integer.MAX_VALUE}) {
            Due.be("what " + what, x.nobody(what), BAD);
        }
    }

    /** BOUND of n BOXES, c looked at, w of these gone. */
    private static int bound(int n, int c, int w) {
        HillBoxes x = new HillBoxes();
        x.finder(0);
        Desk.rule(x, "0", 0, 0);
        for (int i = 0; i < n; i++) {
            x.hide(0, 1, i);
        }
        for (int i = 0; i < c; i++) {
            x.lookAt(1 + i, i < w ? 1 : 0);
        }
        return x.nobody(3);
    }

    /** "(c 0: n)". */
    private static void boundWithoutAnyLookedAt() {
        for (int n = 0; n <= 30; n++) {
            Due.be("n " + n, bound(n, 0, 0), n);
        }
    }

    /** "w .. n - c + w": all looked at leaves w alone; all gone leaves n. */
    private static void boundOfAll() {
        for (int n = 1; n <= 30; n += n < 5 ? 1 : 5) {
            for (int w = 0; w <= n; w += n < 5 ? 1 : 3) {
                Due.be("all of " + n + ", gone " + w, bound(n, n, w), w);
            }
            for (int c = 1; c <= n; c += n < 5 ? 1 : 4) {
                Due.be(c + " of " + n + ", all gone", bound(n, c, c), n);
            }
        }
    }

    /** "with a chance of 5 of 100 at least": 5 of 100 is enough, less is not. */
    private static void boundAtFiveOfAHundred() {
        // one of n looked at, and there: W gone with a chance of (n - W) of n
        Due.be("1 of 20 is 5 of 100", bound(20, 1, 0), 19);
        Due.be("1 of 21 is less, 2 are enough", bound(21, 1, 0), 19);
        Due.be("1 of 19 is more", bound(19, 1, 0), 18);
        Due.be("1 of 30 is less, 2 of 30 are enough", bound(30, 1, 0), 28);
        // 3 of 6 there: of W gone 1 of C(6, 3) = 20 ways with W 3 leaves 3 of 3
        Due.be("1 way of 20", bound(6, 3, 0), 3);
        // 2 of 6 there: W 4 leaves 1 way of 15
        Due.be("1 way of 15", bound(6, 2, 0), 4);
        // 3 of 7 there: W 4 leaves 1 way of 35, W 3 leaves 4
        Due.be("1 way of 35 is less", bound(7, 3, 0), 3);
        // 15 of 30: large numbers of ways
        Due.be("half of 30, 7 gone", bound(30, 15, 7), 19);
        // 4 of 9 looked at, 1 gone: of 6 gone 6 ways of 126 (none leaves 4 there), of 5 gone 20 and 1
        Due.be("a way that can't be is none", bound(9, 4, 1), 5);
        // 3 of 29 gone: of 4 gone 4 ways of 30 leave one of them
        Due.be("all but one", bound(30, 29, 3), 4);
        Due.be("all but one, 28 gone", bound(30, 29, 28), 29);
    }

    /** "of n above 30: BIG". */
    private static void above30IsBig() {
        // of 25 gone 260 ways of 4060 show one gone or none, of 26 gone 160
        Due.be("n 30", bound(30, 3, 1), 25);
        Due.be("n 31", bound(31, 3, 1), BIG);
        Due.be("n 31, none looked at", bound(31, 0, 0), BIG);
        HillBoxes x = new HillBoxes();
        x.finder(0);
        Desk.rule(x, "0", 0, 0);
        for (int i = 0; i < 32; i++) {
            x.hide(0, 1, i);
        }
        Due.be("n itself is told", x.nobody(0), 32);
        x.log(0, 1, 0, 1);
        Due.be("31 left", x.nobody(3), BIG);
        x.down(2);
        Due.be("30 left", x.nobody(3), 30);
    }

    // ---- RANK

    /** FINDERS 0 .. 2, BOXES 3 .. 5 at 0, 4, 8, on DAY 5. */
    private static HillBoxes race() {
        HillBoxes x = new HillBoxes();
        for (int i = 0; i < 3; i++) {
            x.finder(10 * i);
        }
        for (int i = 0; i < 3; i++) {
            x.hide(0, 1, 4 * i);
        }
        x.days(5);
        return x;
    }

    /** "a LOG found on d or ahead". */
    private static void rankOnDayDOrAhead() {
        HillBoxes x = race();
        x.log(0, 3, 24 * 2 + 23, 1);
        x.log(1, 3, 24 * 3, 1);
        int[] days = {0, 1, 2, 3, 999};
        int[] ofTheFirst = {0, 0, 1, 1, 1};
        int[] ofTheSecond = {0, 0, 0, 1, 1};
        int[] place = {1, 1, 2, 1, 1};
        for (int k = 0; k < days.length; k++) {
            Due.be("the last HOUR of DAY 2, on " + days[k], x.rank(0, days[k], -1, 0), ofTheFirst[k]);
            Due.be("the first HOUR of DAY 3, on " + days[k], x.rank(1, days[k], -1, 0), ofTheSecond[k]);
            Due.be("the place of the second, on " + days[k], x.rank(1, days[k], -1, 1), place[k]);
        }
    }

    /** "that COUNTS (on that LOG's DAY, AS KNOWN TODAY) and is not FALSE". */
    private static void rankOfThoseThatCountAndAreNotFalse() {
        HillBoxes x = race();
        x.log(0, 3, 24, 1);
        x.log(0, 4, 60, 1);
        x.log(0, 5, 60, 1);
        Due.be("two of one MOMENT are FALSE", x.rank(0, 5, -1, 0), 1);
        x.log(0, 3, 70, 0);
        Due.be("one that says not found", x.rank(0, 5, -1, 0), 1);
        Desk.rule(x, "0", 2, 2);
        Due.be("one that COUNTS by its own DAY", x.rank(0, 5, -1, 0), 1);
        Desk.rule(x, "0", 2, 1);
        Due.be("none COUNTS", x.rank(0, 5, -1, 0), 0);
        x.down(5);
        Desk.rule(x, "1", 2, 0);
        Due.be("on the DAY of its end alone it lay nowhere", x.rank(0, 5, -1, 0), 1);
    }

    /** "BOXES of which it has a LOG": a BOX found again is one. */
    private static void aBoxIsFoundOnce() {
        HillBoxes x = race();
        for (int i = 0; i < 5; i++) {
            x.log(0, 3, 24 * i, 1);
            x.log(1, 3, 24 * i, 1);
        }
        Due.be("of the one", x.rank(0, 5, -1, 0), 1);
        Due.be("of the other", x.rank(1, 5, -1, 0), 1);
        x.log(1, 4, 100, 1);
        Due.be("one more", x.rank(1, 5, -1, 0), 2);
        // the first LOG of a BOX is FALSE, a later one is not
        HillBoxes y = race();
        y.log(0, 3, 10, 1);
        y.log(0, 5, 11, 1);
        y.log(0, 3, 100, 1);
        Due.be("found by the later LOG", y.rank(0, 5, -1, 0), 1);
    }

    /** "place 1 for the most, like ones share the place": "1 and how many have more". */
    private static void likeOnesShareThePlace() {
        HillBoxes x = race();
        for (int f = 0; f < 3; f++) {
            Due.be("without LOGS", x.rank(f, 5, -1, 1), 1);
        }
        x.log(2, 3, 10, 1);
        Due.row("one of one", new long[] {x.rank(0, 5, -1, 1), x.rank(1, 5, -1, 1), x.rank(2, 5, -1, 1)}, 2, 2, 1);
        x.log(1, 4, 10, 1);
        Due.row("two of one", new long[] {x.rank(0, 5, -1, 1), x.rank(1, 5, -1, 1), x.rank(2, 5, -1, 1)}, 3, 1, 1);
        x.log(1, 3, 50, 1);
        Due.row("two and one", new long[] {x.rank(0, 5, -1, 1), x.rank(1, 5, -1, 1), x.rank(2, 5, -1, 1)}, 3, 1, 2);
        x.leaves(1);
        Due.be("one that LEFT is ahead still", x.rank(2, 5, -1, 1), 2);
        x.finder(5);
        Due.be("one that came later", x.rank(6, 5, -1, 1), 3);
    }

    /** "BESIDE: with a TEXT (of USE 2) in place of those in force": "(rule; -1: none)". */
    private static void besideARule() {
        HillBoxes x = race();
        x.log(1, 3, 24, 1);
        x.log(1, 4, 50, 1);
        Desk.rule(x, "day = 1", 2, 999);
        Desk.rule(x, "0", 2, 0);
        Due.be("in force", x.rank(1, 5, -1, 0), 0);
        Due.be("beside RULE 0, though for DAY 999", x.rank(1, 5, 0, 0), 1);
        Due.be("beside RULE 1", x.rank(1, 5, 1, 0), 0);
        Due.be("place in force", x.rank(0, 5, -1, 1), 1);
        Due.be("place beside", x.rank(0, 5, 0, 1), 2);
        Due.be("in force again", x.rank(1, 5, -1, 0), 0);
    }

    /** "BAD": FINDER, DAY, RULE, what. */
    private static void rankIsRefused() {
        HillBoxes x = race();
        Desk.rule(x, "1", 2, 0);
        Desk.rule(x, "1", 3, 0);
        for (int rule : new int[] {Integer.MIN_VALUE, -2, -1, 0, 1, 2, 19, 20, Integer.MAX_VALUE}) {
            Due.be("beside RULE " + rule, x.rank(0, 0, rule, 0), rule == -1 || rule == 0 ? 0 : BAD);
        }
        for (int day : new int[] {Integer.MIN_VALUE, -1, 0, 999, 1000, Integer.MAX_VALUE}) {
            Due.be("on DAY " + day, x.rank(0, day, -1, 1), day == 0 || day == 999 ? 1 : BAD);
        }
        for (int what = -1; what <= 2; what++) {
            Due.be("what " + what, x.rank(0, 0, -1, what), what == 0 ? 0 : what == 1 ? 1 : BAD);
        }
        for (int finder : new int[] {-1, 0, 2, 3, 6, 150}) {
            Due.be("of " + finder, x.rank(finder, 0, -1, 0), finder == 0 || finder == 2 ? 0 : BAD);
        }
    }
}
