/** Sections 1 and 3 of the document, a sentence a test: where days, cells, bodies, moves and WHY begin and end. */
final class GroundEdgesTests {
    private static final int BAD = HillBoxes.BAD, NOT = HillBoxes.NOT, FULL = HillBoxes.FULL, STATE = HillBoxes.STATE,
        VOID = HillBoxes.VOID;

    public static void main(String[] args) {
        dayIsZeroAtFirst();
        dayIsAtMost999();
        daysAreOneToAHundred();
        hoursOfMoves();
        hoursOfLiesAt();
        momentIs24DayAndHour();
        cellsAre0To59();
        ownersAre0To9();
        noOwnerAtFirst();
        farIsOfXAndOfY();
        bodiesAre0To149();
        everySortOfBodyCanBeTheLast();
        kindsThatCanBeMade();
        kindsThatCanBeHidden();
        sinceIsTheDayTheyCame();
        leftFromThatDayOn();
        keeperIsAFinder();
        notPutDownAtFirst();
        stepsAre1To4();
        manyLiesAtTheLastStep();
        stepsAreNoneBehindAnyHiding();
        movesAreAtMost200OfAll();
        movedInThatHourOrBehind();
        loggedInThatHourOrBehind();
        moveOnTheDayOfHiding();
        aMoveToTheSameCellIsOne();
        liesNowWhereTheLatestMovePutIt();
        fromThatMomentOn();
        liesFromHour0OfItsHiding();
        nowhereFromHour0OfItsEnd();
        hiddenAndPutDownOnOneDay();
        putDownLayAtLast();
        ofBodyOfEachKind();
        countsOfEachSort();
        whyIsTheFirstOfFour();
        nearerThanNear();
        aStepForAllToSeeIsTheFirstCell();
        aSecretStepIsNeitherTheFirstNorTheLast();
        threeForFour();
        whereThisOneWouldLie();
        aPutDownManyHindersNobody();
        ownersLeaveAtEachStep();
        hideIsAskedByTheCellTold();
        Due.end("GroundEdgesTests");
    }

    /** A new object whose DAY is this one. */
    private static HillBoxes onDay(int day) {
        HillBoxes x = new HillBoxes();
        for (int left = day; left > 0; left -= 100) {
            x.days(Math.min(100, left));
        }
        return x;
    }

    /** One FINDER at 0, and a NEAR of 0: BOXES may lie anywhere. */
    private static HillBoxes open(int day) {
        HillBoxes x = onDay(day);
        x.finder(0);
        Desk.rule(x, "0", 0, 0);
        return x;
    }

    // ---- section 1: days, cells, bodies

    /** "DAY is a count, 0 at first": "no finders, no boxes". */
    private static void dayIsZeroAtFirst() {
        HillBoxes x = new HillBoxes();
        Due.be("DAY of a new object", x.count(8), 0);
        Due.be("BODIES of a new object", x.count(0), 0);
        Due.be("FINDERS of a new object", x.count(3), 0);
        Due.be("BOXES of a new object", x.count(1), 0);
        Due.be("a FINDER of a new object came on", x.finder(0), 0);
        Due.be("a FINDER of a new object came on", x.ofBody(0, 2), 0);
    }

    /** "at most 999"; "BAD (also beyond 999)". */
    private static void dayIsAtMost999() {
        Due.be("from 998 to 999", onDay(998).days(1), 999);
        Due.be("from 998 beyond", onDay(998).days(2), BAD);
        Due.be("from 899 to 999", onDay(899).days(100), 999);
        Due.be("from 900 beyond", onDay(900).days(100), BAD);
        Due.be("from 999 beyond", onDay(999).days(1), BAD);
        Due.be("from 999 far beyond", onDay(999).days(100), BAD);
        HillBoxes x = onDay(950);
        Due.be("refused", x.days(50), BAD);
        Due.be("the DAY stays", x.count(8), 950);
        Due.be("less is not refused", x.days(49), 999);
    }

    /** "n (1 .. 100) DAYS go by". */
    private static void daysAreOneToAHundred() {
        int[] no = {Integer.MIN_VALUE, -100, -1, 0, 101, 1000, Integer.MAX_VALUE};
        for (int n : no) {
            HillBoxes x = onDay(3);
            Due.be("days " + n, x.days(n), BAD);
            Due.be("the DAY stays", x.count(8), 3);
        }
        Due.be("days 1", onDay(0).days(1), 1);
        Due.be("days 100", onDay(0).days(100), 100);
    }

    /** "a DAY has 24 HOURS": a MOVE is in an HOUR of TODAY. */
    private static void hoursOfMoves() {
        int[] hours = {Integer.MIN_VALUE, -1, 0, 23, 24, Integer.MAX_VALUE};
        int[] due = {BAD, BAD, 1, 1, BAD, BAD};
        for (int i = 0; i < hours.length; i++) {
            HillBoxes x = open(2);
            x.hide(0, 4, 30);
            Due.be("move in HOUR " + hours[i], x.move(1, 31, hours[i]), due[i]);
            Due.be("where it lies behind it", x.ofBody(1, 5), due[i] == 1 ? 31 : 30);
        }
    }

    /** "LIES AT of a BOX at a MOMENT (DAY 0 .. 999, HOUR)". */
    private static void hoursOfLiesAt() {
        HillBoxes x = open(0);
        x.hide(0, 1, 30);
        int[][] asked = {{0, -1}, {0, 0}, {0, 23}, {0, 24}, {-1, 0}, {999, 0}, {999, 23}, {1000, 0}, {999, 24},
            {Integer.MAX_VALUE, 0}, {Integer.MIN_VALUE, 0}, {0, Integer.MAX_VALUE}, {0, Integer.MIN_VALUE}};
        int[] due = {BAD, 30, 30, BAD, BAD, 30, 30, BAD, BAD, BAD, BAD, BAD, BAD};
        for (int i = 0; i < asked.length; i++) {
            Due.be("liesAt DAY " + asked[i][0] + " HOUR " + asked[i][1], x.liesAt(1, asked[i][0], asked[i][1]), due[i]);
        }
    }

    /** "MOMENT is 24 DAY and HOUR"; "BAD (also a moment behind TODAY)". */
    private static void momentIs24DayAndHour() {
        HillBoxes x = open(2);
        x.hide(0, 5, 30);
        Due.be("the last moment of TODAY", x.log(0, 1, 24 * 2 + 23, 1), 0);
        Due.be("the first moment behind TODAY", x.log(0, 1, 24 * 3, 1), BAD);
        Due.be("the first moment of all", x.log(0, 1, 0, 0), 1);
        Due.be("ahead of all", x.log(0, 1, -1, 0), BAD);
        Due.be("HOUR 23 is by night", x.isFalse(0, 0), 0);
        Due.be("HOUR 6", x.log(0, 1, 24 * 2 + 6, 1), 2);
        Due.be("HOUR 6 is by day", x.isFalse(2, 0), 3);
        x.days(1);
        Due.be("the first moment of the next DAY", x.log(0, 1, 24 * 3, 1), 3);
        Due.be("the last moment of the next DAY", x.log(0, 1, 24 * 3 + 23, 1), 4);
        Due.be("behind the next DAY", x.log(0, 1, 24 * 4, 1), BAD);
    }

    /** "CELLS x 0 .. 9, y 0 .. 5 (told as 10 y and x: 0 .. 59)": wherever a CELL is told. */
    private static void cellsAre0To59() {
        for (int cell : new int[] {-1, 0, 59, 60}) {
            boolean good = cell == 0 || cell == 59;
            HillBoxes x = open(0);
            x.hide(0, 4, 33);
            Due.be("owner of " + cell, x.owner(cell, -1), good ? -1 : VOID);
            Due.be("nearest of " + cell, x.nearest(0, cell) == BAD ? 1 : 0, good ? 0 : 1);
            Due.be("why at " + cell, x.why(0, 1, cell, 0), good ? 0 : BAD);
            Due.be("move to " + cell, x.move(1, cell, 5), good ? 1 : BAD);
            Due.be("step to " + cell, x.step(cell), good ? 1 : BAD);
            Due.be("hide at " + cell, x.hide(0, 1, cell), good ? 2 : BAD);
            Due.be("finder at " + cell, x.finder(cell), good ? 3 : BAD);
        }
    }

    /** "each of an OWNER 0 .. 9 (or none, -1)". */
    private static void ownersAre0To9() {
        int[] owners = {-2, -1, 0, 9, 10};
        for (int owner : owners) {
            HillBoxes x = new HillBoxes();
            x.owner(7, 5);
            boolean good = owner >= -1 && owner <= 9;
            Due.be("owner " + owner, x.owner(7, owner), good ? 5 : VOID);
            Due.be("whose it is behind it", x.owner(7, 5), good ? owner : 5);
        }
    }

    /** "(or none, -1: so at first)". */
    private static void noOwnerAtFirst() {
        HillBoxes x = new HillBoxes();
        for (int cell = 0; cell < 60; cell++) {
            Due.be("whose " + cell + " was", x.owner(cell, cell % 10), -1);
        }
        for (int cell = 0; cell < 60; cell++) {
            Due.be("whose " + cell + " is", x.owner(cell, -1), cell % 10);
        }
    }

    /** "FAR of two CELLS: the difference of x and that of y, together". */
    private static void farIsOfXAndOfY() {
        int[] homes = {0, 9, 34, 50, 59};
        for (int home : homes) {
            HillBoxes x = new HillBoxes();
            x.finder(0);
            x.hide(0, 1, home);
            for (int cell = 0; cell < 60; cell++) {
                int far = Math.abs(cell % 10 - home % 10) + Math.abs(cell / 10 - home / 10);
                Due.be("FAR of " + cell + " and " + home, x.nearest(0, cell), far);
            }
        }
        HillBoxes x = new HillBoxes();
        x.finder(0);
        x.hide(0, 1, 9);
        Due.be("the end of a row and the begin of the next one", x.nearest(0, 10), 10);
    }

    /** "BODIES 0 .. 149, as they come". */
    private static void bodiesAre0To149() {
        HillBoxes x = new HillBoxes();
        for (int i = 0; i < 150; i++) {
            Due.be("body " + i, i % 3 == 0 ? x.finder(5) : x.body(i % 3 == 1 ? 0 : 6), i);
        }
        Due.be("a BODY more", x.body(0), FULL);
        Due.be("a THING more", x.body(6), FULL);
        Due.be("a FINDER more", x.finder(5), FULL);
        Due.be("a BOX more", x.hide(0, 1, 0), FULL);
        Due.be("how many", x.count(0), 150);
        Due.be("the first", x.ofBody(0, 0), 7);
        Due.be("the last", x.ofBody(149, 0), 6);
        for (int none : new int[] {-1, 150, 151, Integer.MAX_VALUE, Integer.MIN_VALUE}) {
            Due.be("BODY " + none, x.ofBody(none, 0), VOID);
            Due.be("FINDER " + none, x.leaves(none), BAD);
            Due.be("BOX " + none, x.down(none), BAD);
            Due.be("THING " + none, x.chain(none), BAD);
            Due.be("the act of " + none, x.act(none, 0, 5), 0);
            Due.be("RANK of " + none, x.rank(none, 0, -1, 0), BAD);
        }
        HillBoxes y = new HillBoxes();
        y.body(6);
        Due.be("a THING is the first", y.ofBody(0, 2), 0);
        Due.be("its CHAIN", y.chain(0), 0);
        Due.be("its JUMPS", y.jump(0, -1), 0);
    }

    /** The 150th may be of any sort, and does all that others do. */
    private static void everySortOfBodyCanBeTheLast() {
        for (int sort = 0; sort < 4; sort++) {
            HillBoxes x = new HillBoxes();
            x.finder(0);
            for (int i = 1; i < 149; i++) {
                x.body(0);
            }
            int last = sort == 0 ? x.body(0) : sort == 1 ? x.body(6) : sort == 2 ? x.finder(9) : x.hide(0, 4, 9);
            Due.be("the last", last, 149);
            Due.be("its KIND", x.ofBody(149, 0), new int[] {0, 6, 7, 4}[sort]);
            Due.be("it acts", x.act(149, 0, 1), sort == 3 ? 150 - 9 ^ 5 : 150);
            Due.be("it is kept", x.keep(0, 149), 1);
            Due.be("FULL", x.finder(1), FULL);
        }
        HillBoxes x = new HillBoxes();
        for (int i = 0; i < 149; i++) {
            x.body(0);
        }
        x.finder(9);
        Due.be("the last FINDER: rank", x.rank(149, 0, -1, 1), 1);
        Due.be("the last FINDER: home", x.ofBody(149, 1), 9);
        Due.be("the last FINDER: leaves", x.leaves(149), 1);
    }

    /** "A BODY (KIND 0), a THING (6)". */
    private static void kindsThatCanBeMade() {
        for (int kind = -1; kind <= 8; kind++) {
            HillBoxes x = new HillBoxes();
            Due.be("body of KIND " + kind, x.body(kind), kind == 0 || kind == 6 ? 0 : BAD);
            Due.be("BODIES behind it", x.count(0), kind == 0 || kind == 6 ? 1 : 0);
        }
    }

    /** "one of a KIND (1 .. 5)"; "BAD (3 without STEPS)". */
    private static void kindsThatCanBeHidden() {
        for (int kind = -1; kind <= 8; kind++) {
            HillBoxes x = open(0);
            boolean good = kind >= 1 && kind <= 5;
            Due.be("why of KIND " + kind, x.why(0, kind, 5, 0), good && kind != 3 ? 0 : BAD);
            Due.be("hide of KIND " + kind, x.hide(0, kind, 5), good && kind != 3 ? 1 : BAD);
            x.step(7);
            Due.be("why of KIND " + kind + " with a STEP", x.why(0, kind, 5, 1), good ? 0 : BAD);
        }
        HillBoxes x = open(0);
        x.step(7);
        Due.be("MANY with one STEP", x.hide(0, 3, 5), 1);
        Due.be("MANY without STEPS again", x.hide(0, 3, 5), BAD);
        Due.be("why of MANY without STEPS again", x.why(0, 3, 5, 0), BAD);
    }

    /** "SINCE (the DAY when they came)". */
    private static void sinceIsTheDayTheyCame() {
        HillBoxes x = onDay(999);
        x.finder(0);
        Due.be("came on 999", x.ofBody(0, 2), 999);
        HillBoxes y = new HillBoxes();
        y.finder(0);
        y.days(5);
        Due.be("came on 0", y.ofBody(0, 2), 0);
        Due.be("home 0", y.ofBody(0, 1), 0);
    }

    /** "THERE or LEFT (by call, from that DAY on)": "NOT: it did". */
    private static void leftFromThatDayOn() {
        HillBoxes x = open(0);
        x.finder(59);
        Due.be("THERE", x.count(4), 2);
        Due.be("LEFT on: not yet", x.ofBody(0, 3), -1);
        Due.be("leaves on DAY 0", x.leaves(0), 1);
        Due.be("LEFT on DAY 0", x.ofBody(0, 3), 0);
        Due.be("it hides on that DAY", x.hide(0, 1, 5), -21);
        Due.be("leaves again", x.leaves(0), NOT);
        x.days(1);
        Due.be("leaves on the next DAY", x.leaves(0), NOT);
        Due.be("LEFT on DAY 0 still", x.ofBody(0, 3), 0);
        Due.be("THERE then", x.count(4), 1);
        Due.be("FINDERS then", x.count(3), 2);
        Due.be("the other leaves", x.leaves(1), 1);
        Due.be("nobody is THERE", x.count(4), 0);
        Due.be("LEFT on DAY 1", x.ofBody(1, 3), 1);
    }

    /** "a KEEPER (a FINDER)": who hid it. */
    private static void keeperIsAFinder() {
        HillBoxes x = open(0);
        x.finder(9);
        x.body(0);
        Due.be("a BODY hides", x.hide(2, 1, 5), BAD);
        Due.be("nobody hides", x.hide(-1, 1, 5), BAD);
        Due.be("one behind the last hides", x.hide(3, 1, 5), BAD);
        Due.be("FINDER 0 hides", x.hide(0, 1, 5), 3);
        Due.be("a BOX hides", x.hide(3, 1, 6), BAD);
        Due.be("FINDER 1 hides", x.hide(1, 1, 6), 4);
        Due.be("KEEPER 0", x.ofBody(3, 1), 0);
        Due.be("KEEPER 1", x.ofBody(4, 1), 1);
    }

    /** "PUT DOWN on a DAY (not at first)"; "NOT: it is". */
    private static void notPutDownAtFirst() {
        HillBoxes x = open(0);
        x.hide(0, 1, 5);
        Due.be("at first", x.ofBody(1, 4), -1);
        Due.be("lying", x.count(2), 1);
        Due.be("own", x.ofBody(0, 4), 1);
        Due.be("down on DAY 0", x.down(1), 1);
        Due.be("PUT DOWN on DAY 0", x.ofBody(1, 4), 0);
        Due.be("down again", x.down(1), NOT);
        x.days(1);
        Due.be("down on the next DAY", x.down(1), NOT);
        Due.be("PUT DOWN on DAY 0 still", x.ofBody(1, 4), 0);
        Due.be("lying then", x.count(2), 0);
        Due.be("own then", x.ofBody(0, 4), 0);
        Due.be("BOXES then", x.count(1), 1);
    }

    // ---- steps, moves, where it lies

    /** "STEPS, 1 to 4 told ahead"; "FULL: 4". */
    private static void stepsAre1To4() {
        HillBoxes x = open(0);
        for (int i = 1; i <= 4; i++) {
            Due.be("step " + i, x.step(10 * i), i);
        }
        Due.be("step 5", x.step(59), FULL);
        Due.be("a CELL that is none", x.step(60), BAD);
        Due.be("how many", x.count(9), 4);
        Due.be("a MANY with 4", x.hide(0, 3, 9), 1);
        Due.be("it lies at the 4th", x.ofBody(1, 5), 40);
        Due.be("none then", x.count(9), 0);
        Due.be("the first of the next", x.step(59), 1);
        Due.be("a MANY with 1", x.hide(0, 3, 9), 2);
        Due.be("it lies at the 1st", x.ofBody(2, 5), 59);
        for (int i = 1; i <= 4; i++) {
            Due.be("the same CELL, step " + i, x.step(7), i);
        }
    }

    /** "its CELL comes first, then these, the box lies at the last one". */
    private static void manyLiesAtTheLastStep() {
        for (int n = 1; n <= 4; n++) {
            HillBoxes x = open(0);
            for (int i = 1; i <= n; i++) {
                x.step(i);
            }
            x.hide(0, 3, 50);
            Due.be("CELL of a MANY of " + n, x.ofBody(1, 2), 50);
            Due.be("where a MANY of " + n + " lies", x.ofBody(1, 5), n);
            Due.be("where it lies at a MOMENT", x.liesAt(1, 0, 0), n);
            x.step(59);
            Due.be("a STEP told later is not of it", x.ofBody(1, 5), n);
        }
    }

    /** "STEPS are none behind hiding of any KIND"; "(STEPS stay in all of these)". */
    private static void stepsAreNoneBehindAnyHiding() {
        for (int kind = 1; kind <= 5; kind++) {
            HillBoxes x = open(0);
            x.owner(1, 0);
            x.step(7);
            x.step(8);
            x.hide(0, kind, 60);
            Due.be("they stay at BAD, KIND " + kind, x.count(9), 2);
            x.hide(0, kind, 1);
            Due.be("they stay without a LEAVE", x.count(9), 2);
            Due.be("hidden", x.hide(0, kind, 30), 1);
            Due.be("they are none", x.count(9), 0);
            x.step(9);
            x.leaves(0);
            Due.be("LEFT", x.hide(0, kind, 50), -21);
            Due.be("they stay when it LEFT", x.count(9), 1);
        }
    }

    /** "at most 200 MOVES of all"; STATE goes ahead of FULL, BAD ahead of both. */
    private static void movesAreAtMost200OfAll() {
        HillBoxes x = open(0);
        x.hide(0, 4, 1);
        x.hide(0, 4, 2);
        for (int i = 0; i < 199; i++) {
            if (i % 20 == 0) {
                x.days(1);
            }
            x.move(1, i % 60, i % 20);
        }
        Due.be("MOVE 200 of all, of another BOX", x.move(2, 59, 23), 1);
        Due.be("MOVE 201 of all", x.move(1, 0, 23), FULL);
        Due.be("MOVE 201, of one that was moved in that HOUR", x.move(2, 0, 23), STATE);
        Due.be("MOVE 201, to no CELL", x.move(1, 60, 23), BAD);
        Due.be("MOVE 201, in no HOUR", x.move(1, 0, 24), BAD);
        Due.be("where the one lies", x.ofBody(1, 5), 198 % 60);
        Due.be("where the other lies", x.ofBody(2, 5), 59);
        x.down(1);
        Due.be("MOVE 201 of one PUT DOWN", x.move(1, 0, 23), STATE);
    }

    /** "STATE: it was moved .. TODAY in that HOUR or behind". */
    private static void movedInThatHourOrBehind() {
        HillBoxes x = open(1);
        x.hide(0, 4, 1);
        x.hide(0, 4, 2);
        Due.be("at 10", x.move(1, 5, 10), 1);
        Due.be("in that HOUR", x.move(1, 6, 10), STATE);
        Due.be("ahead of it", x.move(1, 6, 9), STATE);
        Due.be("at 0", x.move(1, 6, 0), STATE);
        Due.be("one HOUR behind it", x.move(1, 6, 11), 1);
        Due.be("the other one at 0", x.move(2, 6, 0), 1);
        Due.be("at 23", x.move(1, 7, 23), 1);
        Due.be("at 23 again", x.move(1, 8, 23), STATE);
        x.days(1);
        Due.be("at 0 of the next DAY", x.move(1, 8, 0), 1);
        Due.be("where it lies", x.ofBody(1, 2), 8);
    }

    /** "or a LOG of it is, TODAY in that HOUR or behind". */
    private static void loggedInThatHourOrBehind() {
        for (int found = 0; found <= 1; found++) {
            HillBoxes x = open(1);
            x.hide(0, 4, 1);
            x.hide(0, 4, 59);
            x.log(0, 1, 24 + 10, found);
            Due.be("in the HOUR of a LOG", x.move(1, 6, 10), STATE);
            Due.be("ahead of a LOG", x.move(1, 6, 9), STATE);
            Due.be("another one in that HOUR", x.move(2, 6, 10), 1);
            Due.be("behind a LOG", x.move(1, 6, 11), 1);
            x.log(0, 1, 5, found);
            Due.be("behind a LOG that came later, of a DAY ahead", x.move(1, 7, 12), 1);
            x.log(0, 1, 24 + 23, found);
            x.days(1);
            Due.be("behind a LOG of the DAY ahead", x.move(1, 8, 0), 1);
        }
    }

    /** A MOVE may be in any HOUR of the DAY of its hiding, HOUR 0 too. */
    private static void moveOnTheDayOfHiding() {
        HillBoxes x = open(3);
        x.hide(0, 4, 1);
        Due.be("at 0", x.move(1, 9, 0), 1);
        Due.be("it lay there from HOUR 0 on", x.liesAt(1, 3, 0), 9);
        Due.be("ahead of its hiding", x.liesAt(1, 2, 23), NOT);
    }

    /** "a MOVE to the same CELL is one". */
    private static void aMoveToTheSameCellIsOne() {
        HillBoxes x = open(0);
        x.hide(0, 4, 30);
        Due.be("to where it lies", x.move(1, 30, 5), 1);
        Due.be("in that HOUR", x.move(1, 31, 5), STATE);
        for (int i = 1; i < 200; i++) {
            if (i % 20 == 0) {
                x.days(1);
            }
            Due.be("MOVE " + i, x.move(1, 30, i % 20), i < 6 ? STATE : 1);
        }
        for (int i = 0; i < 5; i++) {
            x.days(1);
            Due.be("MOVES up to 200", x.move(1, 30, 0), 1);
        }
        x.days(1);
        Due.be("MOVE 201", x.move(1, 30, 0), FULL);
    }

    /** "a BOX lies now where the latest MOVE told put it, also in a late HOUR of TODAY". */
    private static void liesNowWhereTheLatestMovePutIt() {
        HillBoxes x = open(1);
        x.hide(0, 4, 0);
        x.move(1, 55, 23);
        Due.be("lies now", x.ofBody(1, 5), 55);
        Due.be("CELL now", x.ofBody(1, 2), 55);
        Due.be("nearest", x.nearest(0, 55), 0);
        Due.be("its act", x.act(1, 0, 0), 1 - 55 ^ 5);
        Due.be("an HOUR ahead", x.liesAt(1, 1, 22), 0);
        Due.be("in that HOUR", x.liesAt(1, 1, 23), 55);
        Desk.rule(x, "1", 0, 0);
        Due.be("too near to where it lies now", x.why(0, 1, 55, 0), 3);
        Due.be("not to where it lay", x.why(0, 1, 0, 0), 0);
        x.wish(1, 1, 0);
        Due.be("a WALK to where it lies now", x.walk(24 * 55, 1), 1);
    }

    /** "MOVED by call to another CELL (from that MOMENT on)". */
    private static void fromThatMomentOn() {
        HillBoxes x = open(2);
        x.hide(0, 4, 1);
        x.move(1, 2, 5);
        x.days(2);
        x.move(1, 3, 0);
        x.move(1, 4, 23);
        int[][] moments = {{2, 0}, {2, 4}, {2, 5}, {2, 6}, {3, 23}, {4, 0}, {4, 22}, {4, 23}, {5, 0}, {999, 23}};
        int[] due = {1, 1, 2, 2, 2, 3, 3, 4, 4, 4};
        for (int i = 0; i < due.length; i++) {
            Due.be("at " + moments[i][0] + ", " + moments[i][1], x.liesAt(1, moments[i][0], moments[i][1]), due[i]);
        }
    }

    /** "NOT: ahead of its hiding (HOUR 0 of that DAY)". */
    private static void liesFromHour0OfItsHiding() {
        for (int kind = 1; kind <= 5; kind++) {
            HillBoxes x = open(5);
            x.step(30);
            x.hide(0, kind, 30);
            Due.be("a DAY ahead, KIND " + kind, x.liesAt(1, 4, 23), NOT);
            Due.be("on DAY 0", x.liesAt(1, 0, 0), NOT);
            Due.be("HOUR 0 of that DAY", x.liesAt(1, 5, 0), 30);
            Due.be("hidden on", x.ofBody(1, 3), 5);
        }
    }

    /** "or PUT DOWN by then (from HOUR 0 of that DAY on)". */
    private static void nowhereFromHour0OfItsEnd() {
        for (int kind = 1; kind <= 5; kind++) {
            HillBoxes x = open(5);
            x.step(30);
            x.hide(0, kind, 30);
            x.days(2);
            x.down(1);
            Due.be("the HOUR ahead, KIND " + kind, x.liesAt(1, 6, 23), 30);
            Due.be("HOUR 0 of that DAY", x.liesAt(1, 7, 0), NOT);
            Due.be("HOUR 23 of that DAY", x.liesAt(1, 7, 23), NOT);
            Due.be("on DAY 999", x.liesAt(1, 999, 23), NOT);
        }
    }

    /** Both at HOUR 0 of one DAY: it lay nowhere at any time. */
    private static void hiddenAndPutDownOnOneDay() {
        HillBoxes x = open(5);
        x.hide(0, 1, 30);
        x.down(1);
        Due.be("ahead", x.liesAt(1, 4, 23), NOT);
        Due.be("on that DAY", x.liesAt(1, 5, 0), NOT);
        Due.be("behind", x.liesAt(1, 6, 0), NOT);
        Due.be("where it lay at last", x.ofBody(1, 5), 30);
    }

    /** "What 5 of a BOX that is PUT DOWN: where it lay at last". */
    private static void putDownLayAtLast() {
        HillBoxes x = open(0);
        x.hide(0, 1, 5);
        x.hide(0, 4, 6);
        x.step(7);
        x.step(8);
        x.hide(0, 3, 9);
        x.days(1);
        x.move(2, 16, 0);
        x.days(1);
        for (int box = 1; box <= 3; box++) {
            x.down(box);
        }
        Due.be("a BOX", x.ofBody(1, 5), 5);
        Due.be("a WANDERING one", x.ofBody(2, 5), 16);
        Due.be("a MANY", x.ofBody(3, 5), 8);
        x.days(50);
        Due.be("a WANDERING one, later", x.ofBody(2, 5), 16);
    }

    /** "Of a BODY: 0 KIND; of FINDERS 1 .. 4; of BOXES 1 .. 7; of THINGS 1, 2. VOID: BAD". */
    private static void ofBodyOfEachKind() {
        HillBoxes x = open(0);
        x.body(0);
        x.body(6);
        for (int kind = 1; kind <= 5; kind++) {
            x.step(50);
            x.hide(0, kind, 10 * kind);
        }
        int[] last = {4, 0, 2, 7, 7, 7, 7, 7};
        for (int body = 0; body < 8; body++) {
            Due.be("what -1 of " + body, x.ofBody(body, -1), VOID);
            Due.be("what 0 of " + body + " is told", x.ofBody(body, 0) == VOID ? 0 : 1, 1);
            Due.be("the last what of " + body + " is told", x.ofBody(body, last[body]) == VOID ? 0 : 1, 1);
            Due.be("one more of " + body, x.ofBody(body, last[body] + 1), VOID);
            Due.be("what MAX of " + body, x.ofBody(body, Integer.MAX_VALUE), VOID);
        }
        Due.be("WHERE of a THING not seen since", x.ofBody(2, 1), -1);
        Due.be("tellings of it", x.ofBody(2, 2), 0);
        Due.be("finds of none", x.ofBody(3, 6), 0);
        Due.be("misses of none", x.ofBody(3, 7), 0);
    }

    /** "How many: 0 BODIES .. 10 bodies that ran in the latest act() (all, kept or not). BAD". */
    private static void countsOfEachSort() {
        HillBoxes x = open(0);
        int[] told = {1, 0, 0, 1, 1, 0, 1, 0, 0, 0, 0};
        for (int what = 0; what <= 10; what++) {
            Due.be("count " + what, x.count(what), told[what]);
        }
        for (int what : new int[] {-1, 11, Integer.MAX_VALUE, Integer.MIN_VALUE}) {
            Due.be("count " + what, x.count(what), BAD);
        }
        x.hide(0, 1, 1);
        x.down(1);
        Due.be("BOXES", x.count(1), 1);
        Due.be("BOXES not PUT DOWN", x.count(2), 0);
        x.hide(0, 5, 1);
        x.act(2, 3, 1);
        Due.be("bodies that ran", x.count(10), 10);
        x.act(3, 3, 1);
        Due.be("no body, none that ran", x.count(10), 0);
    }

    // ---- section 3: WHY

    /** "WHY not, the first of: 1 .. 4". */
    private static void whyIsTheFirstOfFour() {
        HillBoxes x = new HillBoxes();
        x.finder(0);
        x.step(25);
        x.step(29);
        x.hide(0, 3, 21);
        x.owner(22, 6);
        x.owner(25, 6);
        Due.be("no LEAVE, too near", x.why(0, 1, 22, 1), 2);
        Due.be("no LEAVE, too near to a secret one", x.why(0, 1, 25, 1), 2);
        Desk.rule(x, "0", 1, 0);
        Due.be("HIDE says no, no LEAVE, too near", x.why(0, 1, 22, 1), 1);
        Desk.rule(x, "1", 1, 0);
        Desk.rule(x, "1", 16, 0);
        Due.be("too near", x.why(0, 1, 22, 1), 3);
        Due.be("too near to a secret one", x.why(0, 1, 25, 1), 4);
        x.hide(0, 1, 27);
        Due.be("too near to both", x.why(0, 1, 26, 1), 3);
        Due.be("none of them", x.why(0, 1, 50, 1), 0);
        x.leaves(0);
        Due.be("LEFT, and none of the others", x.why(0, 1, 50, 1), 1);
    }

    /** "NEAR (the least FAR that two BOXES may lie apart)": "is nearer than NEAR". */
    private static void nearerThanNear() {
        for (int near = 0; near <= 15; near++) {
            HillBoxes x = new HillBoxes();
            x.finder(0);
            x.hide(0, 1, 0);
            Desk.rule(x, "" + near, 0, 0);
            for (int far = 0; far <= 14; far++) {
                int cell = far <= 9 ? far : 9 + 10 * (far - 9);
                Due.be("NEAR " + near + ", FAR " + far, x.why(0, 1, cell, 1), far < near ? 3 : 0);
            }
        }
        HillBoxes x = new HillBoxes();
        x.finder(0);
        x.hide(0, 1, 0);
        Due.be("without a RULE, FAR 1", x.why(0, 1, 10, 1), 3);
        Due.be("without a RULE, FAR 2", x.why(0, 1, 20, 1), 0);
    }

    /** "a STEP told for all to see is the first CELL of MANY, no other one". */
    private static void aStepForAllToSeeIsTheFirstCell() {
        HillBoxes x = new HillBoxes();
        x.finder(0);
        x.step(34);
        x.step(38);
        x.hide(0, 3, 30);
        Due.be("its first CELL, FAR 0", x.why(0, 1, 30, 1), 3);
        Due.be("its first CELL, FAR 1", x.why(0, 1, 31, 1), 3);
        Due.be("its first CELL, FAR 2", x.why(0, 1, 32, 1), 0);
        Due.be("where it lies, FAR 1", x.why(0, 1, 37, 1), 3);
        Due.be("where it lies, FAR 2", x.why(0, 1, 36, 1), 0);
        Due.be("its other STEP is not for all to see", x.why(0, 1, 34, 1), 4);
    }

    /** "a STEP of MANY that is not its first CELL, nor where it lies". */
    private static void aSecretStepIsNeitherTheFirstNorTheLast() {
        HillBoxes x = new HillBoxes();
        x.finder(0);
        x.step(33);
        x.step(36);
        x.step(39);
        x.step(0);
        x.hide(0, 3, 30);
        Due.be("the first of three secret ones", x.why(0, 1, 33, 1), 4);
        Due.be("the second", x.why(0, 1, 36, 1), 4);
        Due.be("the third", x.why(0, 1, 39, 1), 4);
        Due.be("FAR 1 of it", x.why(0, 1, 49, 1), 4);
        Due.be("FAR 2 of it", x.why(0, 1, 59, 1), 0);
        Due.be("where it lies", x.why(0, 1, 0, 1), 3);
        HillBoxes y = new HillBoxes();
        y.finder(0);
        y.step(39);
        y.hide(0, 3, 30);
        Due.be("a MANY with one STEP has no secret one", y.why(0, 1, 39, 1), 3);
        y.step(0);
        y.step(5);
        y.step(0);
        y.hide(0, 3, 59);
        Due.be("a STEP that is where it lies, too", y.why(0, 1, 0, 1), 3);
        Due.be("the one between", y.why(0, 1, 5, 1), 4);
    }

    /** "Told to the asker: 3 for 4, too (asked again alike); the desk is told 4". */
    private static void threeForFour() {
        HillBoxes x = new HillBoxes();
        x.finder(0);
        x.step(33);
        x.step(36);
        x.hide(0, 3, 30);
        for (int i = 0; i < 3; i++) {
            Due.be("to the asker", x.why(0, 1, 33, 0), 3);
            Due.be("to the desk", x.why(0, 1, 33, 1), 4);
            Due.be("by a no", x.hide(0, 1, 33), -23);
        }
        Due.be("to the asker, of one that it may know", x.why(0, 1, 30, 0), 3);
        Due.be("to the desk, of one that all know", x.why(0, 1, 30, 1), 3);
        Due.be("by a no of one that it may know", x.hide(0, 1, 30), -23);
        Due.be("BOXES", x.count(1), 1);
    }

    /** "nearer than NEAR to where this one would lie": of a MANY at its last STEP. */
    private static void whereThisOneWouldLie() {
        HillBoxes x = new HillBoxes();
        x.finder(0);
        x.hide(0, 1, 0);
        x.step(0);
        x.step(9);
        Due.be("its CELL and a STEP are near, where it would lie is not", x.why(0, 3, 1, 1), 0);
        HillBoxes y = new HillBoxes();
        y.finder(0);
        y.hide(0, 1, 0);
        y.step(9);
        Due.be("one STEP: its CELL is near, where it would lie is not", y.why(0, 3, 1, 1), 0);
        x.step(1);
        Due.be("where it would lie is near", x.why(0, 3, 59, 1), 3);
        Due.be("STEPS told are not of another KIND", x.why(0, 1, 59, 1), 0);
        Due.be("another KIND by its CELL", x.why(0, 1, 1, 1), 3);
    }

    /** "A MANY that is PUT DOWN hinders nobody". */
    private static void aPutDownManyHindersNobody() {
        HillBoxes x = new HillBoxes();
        x.finder(0);
        x.step(33);
        x.step(36);
        x.hide(0, 3, 30);
        x.down(1);
        Due.be("at its first CELL", x.why(0, 1, 30, 1), 0);
        Due.be("at its secret STEP", x.why(0, 1, 33, 1), 0);
        Due.be("where it lay", x.why(0, 1, 36, 1), 0);
        Due.be("hidden where its secret was", x.hide(0, 1, 33), 2);
        x.down(2);
        Due.be("a BOX that is PUT DOWN, neither", x.why(0, 1, 33, 1), 0);
    }

    /** "the OWNER's LEAVE says no (at its CELL and each STEP)". */
    private static void ownersLeaveAtEachStep() {
        for (int at = 0; at < 5; at++) {
            HillBoxes x = new HillBoxes();
            x.finder(0);
            int[] cells = {0, 2, 4, 6, 8};
            for (int i = 1; i < 5; i++) {
                x.step(cells[i]);
            }
            x.owner(cells[at], at == 4 ? 9 : at);
            Due.be("STEPS are asked for MANY alone", x.why(0, 1, 0, 1), at == 0 ? 2 : 0);
            Due.be("without a LEAVE at place " + at, x.why(0, 3, 0, 1), 2);
            Due.be("hide without a LEAVE", x.hide(0, 3, 0), -22);
            Desk.rule(x, "1", at == 4 ? 19 : 10 + at, 0);
            Due.be("with a LEAVE", x.why(0, 3, 0, 1), 0);
            Desk.rule(x, "-1", at == 4 ? 19 : 10 + at, 0);
            Due.be("not 0 is a LEAVE", x.why(0, 3, 0, 1), 0);
            Desk.rule(x, "home = " + cells[at], at == 4 ? 19 : 10 + at, 0);
            Due.be("asked with the home of that CELL", x.hide(0, 3, 0), 1);
        }
    }

    /** "HIDE is asked once, by the CELL told". */
    private static void hideIsAskedByTheCellTold() {
        HillBoxes x = new HillBoxes();
        x.finder(0);
        Desk.rule(x, "home < 3", 1, 0);
        x.step(59);
        Due.be("its CELL is near, its STEP is not", x.why(0, 3, 2, 1), 0);
        Due.be("one CELL more", x.why(0, 3, 3, 1), 1);
        x.step(0);
        Due.be("its last STEP is near, its CELL is not", x.why(0, 3, 9, 1), 1);
    }
}
