/**
 * "What is answered so changes nothing": every refusal of every method on a desk where something of every sort was
 * told, and on desks that are full; whatever is asked behind it is answered as if the refused call had not been.
 */
final class RefusedTests {
    private static final int BAD = HillBoxes.BAD, NOT = HillBoxes.NOT, FULL = HillBoxes.FULL, STATE = HillBoxes.STATE,
        BIG = HillBoxes.BIG, VOID = HillBoxes.VOID;
    private static final int NOTHING = -11, OTHER = -12, NO_PLACE = -13, BELOW_0 = -14;
    private static final int MAX = Integer.MAX_VALUE, MIN = Integer.MIN_VALUE;
    private static final int THING = Village.THING, BODY = Village.BODY, RIDDLE = Village.RIDDLE, MANY = Village.MANY,
        WANDERING = Village.WANDERING, NIGHT = Village.NIGHT, PUT_DOWN = Village.PUT_DOWN, NONE = Village.NONE,
        LEFT = Village.LEFT, OF_ONE_WHO_LEFT = Village.OF_ONE_WHO_LEFT, TODAY = Village.TODAY;

    public static void main(String[] args) {
        days();
        ground();
        bodies();
        whyAndHide();
        hideRefusedByWhy();
        moves();
        ofBodies();
        rules();
        says();
        riddles();
        logs();
        paper();
        askedOfLogs();
        things();
        keepers();
        walks();
        nobodyAndRanks();
        shelves();
        elements();
        shifts();
        fullBodies();
        fullSteps();
        fullMoves();
        fullTape();
        fullRules();
        fullLogs();
        fullTellings();
        fullAskers();
        fullWishes();
        bigOnes();
        aloneOnDay999();
        whatIsAskedTwice();
        Due.end("RefusedTests");
    }

    /** A call that the village refuses. */
    private static void no(String what, long due, Twin.Asked refused) {
        Twin.refuses(what, Village::tell, refused, due, Village::seen);
    }

    private static void days() {
        for (int n : new int[] {0, -1, 101, MAX, MIN}) {
            no("days " + n, BAD, x -> x.days(n));
        }
    }

    private static void ground() {
        for (int cell : new int[] {-1, 60, MAX, MIN}) {
            no("owner of CELL " + cell, VOID, x -> x.owner(cell, 3));
            no("finder at " + cell, BAD, x -> x.finder(cell));
            no("step to " + cell, BAD, x -> x.step(cell));
            no("nearest of " + cell, BAD, x -> x.nearest(0, cell));
            no("why at " + cell, BAD, x -> x.why(0, 1, cell, 0));
            no("hide at " + cell, BAD, x -> x.hide(0, 1, cell));
            no("move to " + cell, BAD, x -> x.move(WANDERING, cell, 9));
        }
        for (int owner : new int[] {-2, 10, MAX, MIN}) {
            no("OWNER " + owner, VOID, x -> x.owner(33, owner));
        }
    }

    private static void bodies() {
        for (int kind : new int[] {-1, 1, 2, 3, 4, 5, 7, 8, MAX, MIN}) {
            no("body of KIND " + kind, BAD, x -> x.body(kind));
        }
        for (int finder : new int[] {-1, THING, BODY, RIDDLE, NONE, 150, MAX, MIN}) {
            no("leaves: " + finder, BAD, x -> x.leaves(finder));
            no("why asked by " + finder, BAD, x -> x.why(finder, 1, 15, 0));
            no("hide by " + finder, BAD, x -> x.hide(finder, 1, 15));
            no("nearest for " + finder, BAD, x -> x.nearest(finder, 0));
            no("log of " + finder, BAD, x -> x.log(finder, RIDDLE, 0, 1));
            no("asks: " + finder, BAD, x -> x.asks(finder, OF_ONE_WHO_LEFT));
            no("rank of " + finder, BAD, x -> x.rank(finder, 0, -1, 0));
            no("others told to " + finder, Long.MIN_VALUE, x -> x.others(RIDDLE, finder));
        }
        no("leaves again", NOT, x -> x.leaves(LEFT));
        for (int box : new int[] {-1, 0, THING, BODY, NONE, 150, MAX, MIN}) {
            no("down: " + box, BAD, x -> x.down(box));
            no("move of " + box, BAD, x -> x.move(box, 0, 9));
            no("liesAt of " + box, BAD, x -> x.liesAt(box, TODAY, 0));
            no("riddle of " + box, BAD, x -> x.riddle(box, 1, 0, 1));
            no("log of BOX " + box, BAD, x -> x.log(0, box, 0, 1));
            no("paper of " + box, BAD, x -> x.paper(box, 5, 0, 1));
            no("join of " + box, BAD, x -> x.join(box, 0, -1));
            no("first of " + box, BAD, x -> x.first(box));
            no("gone of " + box, BAD, x -> x.gone(box, 0));
            no("asks for " + box, BAD, x -> x.asks(1, box));
            no("taker of " + box, BAD, x -> x.taker(box));
            no("take of " + box, BAD, x -> x.take(box));
            no("wish of " + box, BAD, x -> x.wish(box, 1, 0));
            no("lookAt of " + box, BAD, x -> x.lookAt(box, 0));
            no("others of " + box, Long.MIN_VALUE, x -> x.others(box, 0));
            no("solve of " + box, BAD, x -> x.solve(box, -1));
            no("solved of " + box, BAD, x -> x.solved(box, 0));
        }
        no("down again", NOT, x -> x.down(PUT_DOWN));
    }

    private static void whyAndHide() {
        for (int kind : new int[] {-1, 0, 6, 7, 8, MAX, MIN}) {
            no("why of KIND " + kind, BAD, x -> x.why(0, kind, 15, 0));
            no("hide of KIND " + kind, BAD, x -> x.hide(0, kind, 15));
        }
        for (int what : new int[] {-1, 2, MAX, MIN}) {
            no("why, what " + what, BAD, x -> x.why(0, 1, 15, what));
        }
        Twin.refuses("hide of MANY without STEPS", x -> x.finder(0), x -> x.hide(0, 3, 9), BAD, Village::seen);
        Twin.refuses("why of MANY without STEPS", x -> x.finder(0), x -> x.why(0, 3, 9, 0), BAD, Village::seen);
    }

    private static void hideRefusedByWhy() {
        no("hide by one who LEFT", -21, x -> x.hide(LEFT, 1, 15));
        no("hide without a LEAVE", -22, x -> x.hide(0, 1, 33));
        no("hide too near", -23, x -> x.hide(0, 1, 12));
        no("hide too near to a secret STEP", -23, x -> x.hide(0, 4, 36));
        Twin.refuses("hide of MANY whose last STEP is too near", x -> {
            Village.tell(x);
            x.step(38);
        }, x -> x.hide(0, 3, 44), -23, Village::seen);
        no("why, asked by one who LEFT", 1, x -> x.why(LEFT, 1, 15, 0));
        no("why without a LEAVE", 2, x -> x.why(0, 1, 33, 0));
        no("why of a secret STEP, to the asker", 3, x -> x.why(0, 1, 36, 0));
        no("why of a secret STEP, to the desk", 4, x -> x.why(0, 1, 36, 1));
    }

    private static void moves() {
        no("move of a BOX", BAD, x -> x.move(OF_ONE_WHO_LEFT, 0, 9));
        no("move of a RIDDLE", BAD, x -> x.move(RIDDLE, 0, 9));
        no("move of a MANY", BAD, x -> x.move(MANY, 0, 9));
        no("move of a NIGHT one", BAD, x -> x.move(NIGHT, 0, 9));
        for (int hour : new int[] {-1, 24, MAX, MIN}) {
            no("move in HOUR " + hour, BAD, x -> x.move(WANDERING, 0, hour));
            no("liesAt in HOUR " + hour, BAD, x -> x.liesAt(MANY, TODAY, hour));
        }
        no("move in the HOUR of a MOVE", STATE, x -> x.move(WANDERING, 0, 4));
        no("move ahead of a MOVE", STATE, x -> x.move(WANDERING, 0, 3));
        no("move ahead of a LOG", STATE, x -> x.move(WANDERING, 0, 0));
        Twin.refuses("move of one that is PUT DOWN", x -> {
            Village.tell(x);
            x.down(WANDERING);
        }, x -> x.move(WANDERING, 0, 9), STATE, Village::seen);
    }

    private static void ofBodies() {
        for (int body : new int[] {-1, NONE, 150, MAX, MIN}) {
            no("ofBody of " + body, VOID, x -> x.ofBody(body, 0));
            no("keep of " + body, body == -1 ? 1 : BAD, x -> x.keep(body == -1 ? 5 : 2, body));
        }
        int[][] beyond = {{BODY, 1}, {BODY, -1}, {0, 5}, {0, -1}, {RIDDLE, 8}, {RIDDLE, -1}, {THING, 3}, {THING, -1},
            {BODY, MAX}, {0, MIN}};
        for (int[] one : beyond) {
            no("ofBody of " + one[0] + ", what " + one[1], VOID, x -> x.ofBody(one[0], one[1]));
        }
        for (int day : new int[] {-1, 1000, MAX, MIN}) {
            no("liesAt on " + day, BAD, x -> x.liesAt(MANY, day, 0));
        }
        no("liesAt ahead of its hiding", NOT, x -> x.liesAt(MANY, TODAY - 1, 23));
        no("liesAt of one PUT DOWN", NOT, x -> x.liesAt(PUT_DOWN, TODAY, 0));
    }

    private static void rules() {
        for (int n : new int[] {0, -1, 5, MAX, MIN}) {
            no("feed of " + n, BAD, x -> x.feed(n, 50));
        }
        for (int use : new int[] {-1, 5, 9, 20, MAX, MIN}) {
            no("rule of USE " + use, BAD, x -> x.rule(use, 0));
            no("inForce of USE " + use, BAD, x -> x.inForce(use, 0, 0));
            no("says of USE " + use, VOID, x -> x.says(use, 0, RIDDLE, 0));
        }
        for (int day : new int[] {-1, 1000, MAX, MIN}) {
            no("rule for DAY " + day, BAD, x -> x.rule(0, day));
            no("inForce on " + day, BAD, x -> x.inForce(2, day, 0));
            no("inForce as known on " + day, BAD, x -> x.inForce(2, 0, day));
        }
        no("inForce: none", NOT, x -> x.inForce(14, 999, 999));
        // a FAULT empties THE TAPE, and changes nothing else
        Twin.refuses("a FAULT", Village::tell, x -> x.rule(0, 0), -103, x -> {
            while (x.count(7) > 0) {
                x.rule(3, 999);
            }
            return Village.seen(x);
        });
    }

    private static void says() {
        no("says of COUNTS", VOID, x -> x.says(2, 0, RIDDLE, 0));
        no("says of a LEAVE", VOID, x -> x.says(10, 0, 1, 0));
        no("says of NEAR with a FINDER", VOID, x -> x.says(0, 0, -1, 0));
        no("says of NEAR with a BOX", VOID, x -> x.says(0, -1, RIDDLE, 0));
        no("says of HIDE without a FINDER", VOID, x -> x.says(1, -1, 1, 0));
        no("says of HIDE, KIND 0", VOID, x -> x.says(1, 0, 0, 0));
        no("says of HIDE, KIND 6", VOID, x -> x.says(1, 0, 6, 0));
        no("says of DOWN with a FINDER", VOID, x -> x.says(3, 0, RIDDLE, 0));
        no("says of DOWN without a BOX", VOID, x -> x.says(3, -1, -1, 0));
        no("says of SHOWN without a FINDER", VOID, x -> x.says(4, -1, RIDDLE, 0));
        no("says of SHOWN of no BOX", VOID, x -> x.says(4, 0, THING, 0));
        for (int what : new int[] {-1, 2, MAX, MIN}) {
            no("says, what " + what, VOID, x -> x.says(4, 0, RIDDLE, what));
        }
    }

    private static void riddles() {
        no("riddle of a BOX", BAD, x -> x.riddle(OF_ONE_WHO_LEFT, 1, 0, 1));
        no("riddle of a MANY", BAD, x -> x.riddle(MANY, 1, 0, 1));
        no("riddle of a WANDERING one", BAD, x -> x.riddle(WANDERING, 1, 0, 1));
        for (int n : new int[] {0, -1, 9, MAX, MIN}) {
            no("riddle of " + n + " fives", BAD, x -> x.riddle(RIDDLE, 1, 0, n));
        }
        for (int shelf : new int[] {-1, 6, MAX, MIN}) {
            no("riddle from SHELF " + shelf, BAD, x -> x.riddle(RIDDLE, shelf, 0, 1));
        }
        no("riddle from a BODY", OTHER, x -> x.riddle(RIDDLE, 2, 0, 1));
        no("riddle from a ROW of longs", OTHER, x -> x.riddle(RIDDLE, 3, 0, 1));
        no("riddle from a ROW of booleans", OTHER, x -> x.riddle(RIDDLE, 4, 0, 1));
        no("solve, i -2", BAD, x -> x.solve(RIDDLE, -2));
        no("solve, one behind the last", BAD, x -> x.solve(RIDDLE, 6));
        no("solved, i -1", BAD, x -> x.solved(RIDDLE, -1));
        no("solved, one behind the last", BAD, x -> x.solved(RIDDLE, 6));
        no("solve of one that is not told", NOT, x -> x.solve(NIGHT, 0));
        no("solved of one that is not told", NOT, x -> x.solved(NIGHT, 0));
        no("others told to one who is not the KEEPER", Long.MAX_VALUE, x -> x.others(RIDDLE, 1));
        no("others of one that is not told", Long.MAX_VALUE, x -> x.others(NIGHT, 1));
    }

    private static void logs() {
        for (int at : new int[] {-1, 24 * (TODAY + 1), MAX, MIN}) {
            no("log at " + at, BAD, x -> x.log(0, RIDDLE, at, 1));
        }
        for (int found : new int[] {-1, 2, MAX, MIN}) {
            no("log, found " + found, BAD, x -> x.log(0, RIDDLE, 0, found));
        }
    }

    private static void paper() {
        for (int n : new int[] {0, -1, 41, MAX, MIN}) {
            no("paper of " + n + " names", BAD, x -> x.paper(RIDDLE, 5, 0, n));
        }
        for (int shelf : new int[] {-1, 6, MAX, MIN}) {
            no("paper from SHELF " + shelf, BAD, x -> x.paper(RIDDLE, shelf, 0, 1));
        }
        for (int shelf = 1; shelf <= 4; shelf++) {
            int other = shelf;
            no("paper from SHELF " + shelf + " of another sort", OTHER, x -> x.paper(RIDDLE, other, 0, 1));
        }
    }

    private static void askedOfLogs() {
        for (int what : new int[] {-1, 3, MAX, MIN}) {
            no("join, what " + what, BAD, x -> x.join(RIDDLE, what, -1));
            no("gone, what " + what, BAD, x -> x.gone(RIDDLE, what));
        }
        for (int i : new int[] {-2, 2, MAX, MIN}) {
            no("join, i " + i, BAD, x -> x.join(RIDDLE, 0, i));
        }
        for (int what : new int[] {-1, 2, MAX, MIN}) {
            no("isFalse, what " + what, BAD, x -> x.isFalse(0, what));
            no("chance, what " + what, BAD, x -> x.chance(what));
        }
        for (int log : new int[] {-1, Village.LOGS, 300, MAX, MIN}) {
            no("isFalse of LOG " + log, BAD, x -> x.isFalse(log, 0));
            no("tell with LOG " + log, BAD, x -> x.tell(THING, log, 0));
        }
        no("first: nobody", NOT, x -> x.first(WANDERING));
        no("gone from, of one that is not", NOT, x -> x.gone(RIDDLE, 1));
    }

    private static void things() {
        for (int thing : new int[] {-1, 0, BODY, RIDDLE, NONE, MAX, MIN}) {
            no("tell of " + thing, BAD, x -> x.tell(thing, 0, 0));
            no("jump of " + thing, BAD, x -> x.jump(thing, -1));
            no("chain of " + thing, BAD, x -> x.chain(thing));
        }
        for (int left : new int[] {-1, 2, MAX, MIN}) {
            no("tell, left " + left, BAD, x -> x.tell(THING, 0, left));
        }
        no("tell with a LOG that says not found", BAD, x -> x.tell(THING, 4, 0));
        for (int i : new int[] {-2, 2, MAX, MIN}) {
            no("jump, i " + i, BAD, x -> x.jump(THING, i));
            no("toPut, i " + i, BAD, x -> x.toPut(i));
        }
    }

    private static void keepers() {
        no("asks again", BAD, x -> x.asks(0, OF_ONE_WHO_LEFT));
        no("asks, and LEFT", BAD, x -> x.asks(LEFT, OF_ONE_WHO_LEFT));
        no("asks for one whose KEEPER is there", NOT, x -> x.asks(1, RIDDLE));
        no("taker of one that nobody asked for", NOT, x -> x.taker(RIDDLE));
        no("take of one that nobody asked for", NOT, x -> x.take(RIDDLE));
    }

    private static void walks() {
        no("wish of one PUT DOWN", BAD, x -> x.wish(PUT_DOWN, 1, 0));
        no("wish of one that is told", BAD, x -> x.wish(RIDDLE, 1, 0));
        for (int worth : new int[] {-1, 0, 100, MAX, MIN}) {
            no("wish of worth " + worth, BAD, x -> x.wish(MANY, worth, 0));
        }
        for (int hours : new int[] {-1, 10, MAX, MIN}) {
            no("wish for HOURS " + hours, BAD, x -> x.wish(MANY, 1, hours));
        }
        for (int at : new int[] {-1, 1440, MAX, MIN}) {
            no("walk at " + at, BAD, x -> x.walk(at, 48));
            no("judge at " + at, BAD, x -> x.judge(at, 48, 1));
        }
        for (int hours : new int[] {-1, 0, 49, MAX, MIN}) {
            no("walk for HOURS " + hours, BAD, x -> x.walk(0, hours));
            no("judge for HOURS " + hours, BAD, x -> x.judge(0, hours, 1));
        }
        no("walk that finds none", NOT, x -> x.walk(24 * 59, 1));
        no("judge that does not hold", NOT, x -> x.judge(24 * 59, 1, 1));
        for (int row : new int[] {0, -1, 3, 11, 10, 13, 121, MAX, MIN}) {
            no("judge of row " + row, BAD, x -> x.judge(0, 48, row));
        }
        for (int what : new int[] {-2, 1, 7, MAX, MIN}) {
            no("walked, " + what, BAD, x -> x.walked(what));
        }
        Twin.refuses("walk without any that is told", x -> x.finder(0), x -> x.walk(0, 48), NOT, Village::seen);
    }

    private static void nobodyAndRanks() {
        for (int gone : new int[] {-1, 2, MAX, MIN}) {
            no("lookAt, gone " + gone, BAD, x -> x.lookAt(WANDERING, gone));
        }
        no("lookAt of one that was found", NOT, x -> x.lookAt(RIDDLE, 0));
        no("lookAt of one PUT DOWN", NOT, x -> x.lookAt(PUT_DOWN, 0));
        no("lookAt again", NOT, x -> x.lookAt(WANDERING, 0));
        for (int what : new int[] {-1, 4, MAX, MIN}) {
            no("nobody, what " + what, BAD, x -> x.nobody(what));
        }
        for (int day : new int[] {-1, 1000, MAX, MIN}) {
            no("rank on " + day, BAD, x -> x.rank(0, day, -1, 0));
        }
        for (int rule : new int[] {-2, 1, 2, 20, MAX, MIN}) {
            no("rank beside RULE " + rule, BAD, x -> x.rank(0, 0, rule, 0));
        }
        for (int what : new int[] {-1, 2, MAX, MIN}) {
            no("rank, what " + what, BAD, x -> x.rank(0, 0, -1, what));
        }
    }

    private static void shelves() {
        for (int shelf : new int[] {-1, 6, MAX, MIN}) {
            no("keep on SHELF " + shelf, BAD, x -> x.keep(shelf, 0));
            no("keep nothing on SHELF " + shelf, BAD, x -> x.keep(shelf, -1));
            no("row on SHELF " + shelf, BAD, x -> x.row(shelf, 0, 3));
            no("put on SHELF " + shelf, BAD, x -> x.put(shelf, 0, 1));
            no("element of SHELF " + shelf, Long.MIN_VALUE, x -> x.element(shelf, 0));
            no("shift from SHELF " + shelf, BAD, x -> x.shift(shelf, 0, 3, 0, 1));
            no("shift to SHELF " + shelf, BAD, x -> x.shift(3, 0, shelf, 0, 1));
            no("taken from SHELF " + shelf, BAD, x -> x.taken(shelf, 0));
        }
        no("keep of body -2", BAD, x -> x.keep(2, -2));
        for (int sort : new int[] {-1, 5, MAX, MIN}) {
            no("row of sort " + sort, BAD, x -> x.row(3, sort, 3));
        }
        no("row of 61", BAD, x -> x.row(3, 3, 61));
        no("row of MAX", BAD, x -> x.row(3, 3, MAX));
        no("row of -1", BELOW_0, x -> x.row(3, 3, -1));
        no("row of MIN", BELOW_0, x -> x.row(3, 3, MIN));
        for (int k : new int[] {-1, 8, MAX, MIN}) {
            no("taken for KIND " + k, BAD, x -> x.taken(2, k));
        }
        no("taken of nothing", NOTHING, x -> x.taken(5, 0));
        no("taken of a ROW", OTHER, x -> x.taken(3, 0));
        no("taken for a KIND beside", OTHER, x -> x.taken(2, 2));
        no("trace, place -1", BAD, x -> x.trace(-1));
        no("trace, place 24", BAD, x -> x.trace(24));
        no("trace, behind the last", BAD, x -> x.trace(10));
        no("count -1", BAD, x -> x.count(-1));
        no("count 11", BAD, x -> x.count(11));
    }

    private static void elements() {
        for (int i : new int[] {-1, 3, 60, MAX, MIN}) {
            no("put at " + i, NO_PLACE, x -> x.put(3, i, 5));
            no("element at " + i, Long.MIN_VALUE, x -> x.element(3, i));
        }
        no("put on nothing", NOTHING, x -> x.put(5, 0, 5));
        no("put on a BODY", OTHER, x -> x.put(2, 0, 5));
        no("element of nothing", Long.MIN_VALUE, x -> x.element(5, 0));
        no("element of a BODY", Long.MIN_VALUE, x -> x.element(2, 0));
    }

    private static void shifts() {
        no("shift from nothing", NOTHING, x -> x.shift(5, 0, 3, 0, 1));
        no("shift to nothing", NOTHING, x -> x.shift(3, 0, 5, 0, 1));
        no("shift from a BODY", OTHER, x -> x.shift(2, 0, 3, 0, 1));
        no("shift to a BODY", OTHER, x -> x.shift(3, 0, 2, 0, 1));
        no("shift of unlike sorts", OTHER, x -> x.shift(3, 0, 4, 0, 1));
        int[][] beyond = {{-1, 0, 1}, {0, -1, 1}, {0, 0, -1}, {0, 0, 4}, {1, 0, 3}, {0, 1, 3}, {4, 0, 0}, {0, 4, 0},
            {-1, 0, 0}, {0, -1, 0}, {MAX, 0, 1}, {0, MAX, 1}, {0, 0, MAX}, {MIN, 0, 1}, {0, MIN, 1}, {0, 0, MIN},
            {1, 1, MAX}, {MAX, MAX, MAX}};
        for (int[] one : beyond) {
            no("shift of " + one[2] + " from " + one[0] + " to " + one[1], NO_PLACE,
                x -> x.shift(3, one[0], 3, one[1], one[2]));
        }
    }

    // ---- what is full

    private static void fullOfBodies(HillBoxes x) {
        x.finder(0);
        x.owner(1, 0);
        for (int i = 1; i < 150; i++) {
            x.body(i % 2 * 6);
        }
        x.step(7);
    }

    private static void fullBodies() {
        Twin.Told full = RefusedTests::fullOfBodies;
        Twin.refuses("body when full", full, x -> x.body(0), FULL, Village::seen);
        Twin.refuses("THING when full", full, x -> x.body(6), FULL, Village::seen);
        Twin.refuses("finder when full", full, x -> x.finder(5), FULL, Village::seen);
        Twin.refuses("hide when full", full, x -> x.hide(0, 1, 30), FULL, Village::seen);
        Twin.refuses("hide of MANY when full", full, x -> x.hide(0, 3, 30), FULL, Village::seen);
        Twin.refuses("hide without a LEAVE when full", full, x -> x.hide(0, 1, 1), -22, Village::seen);
    }

    private static void fullSteps() {
        Twin.refuses("step when full", x -> {
            x.finder(0);
            for (int i = 0; i < 4; i++) {
                x.step(10 + i);
            }
        }, x -> x.step(59), FULL, x -> new long[] {
            x.count(9), x.hide(0, 3, 0), x.ofBody(1, 5), x.why(0, 1, 12, 1), x.why(0, 1, 59, 1)});
    }

    private static void fullMoves() {
        Twin.refuses("move when full", x -> {
            x.finder(0);
            x.hide(0, 4, 0);
            x.hide(0, 4, 9);
            for (int i = 0; i < 200; i++) {
                if (i % 20 == 0) {
                    x.days(1);
                }
                x.move(1 + i % 2, i % 60, i % 20);
            }
        }, x -> x.move(1, 55, 22), FULL, x -> new long[] {
            x.ofBody(1, 2), x.ofBody(2, 2), x.liesAt(1, 10, 21), x.liesAt(1, 10, 22), x.liesAt(1, 999, 23),
            x.liesAt(2, 10, 23), x.nearest(0, 55), x.log(0, 1, 240 + 22, 1), x.move(1, 55, 23)});
    }

    private static void fullTape() {
        Twin.Told full = x -> Desk.feed(x, "7" + " ".repeat(157));
        Twin.Seen tape = x -> new long[] {x.count(7), x.feed(2, 0x2020), x.count(7), x.rule(0, 0), x.says(0, -1, -1, 0)};
        Twin.refuses("feed beyond 160", full, x -> x.feed(3, 0x2b2b2b), FULL, tape);
        Twin.refuses("feed of 4 beyond 160", full, x -> x.feed(4, -1), FULL, tape);
        Twin.refuses("feed of one when full", x -> Desk.feed(x, "7" + " ".repeat(159)), x -> x.feed(1, '+'), FULL,
            x -> new long[] {x.count(7), x.rule(0, 0), x.says(0, -1, -1, 0)});
    }

    private static void fullRules() {
        Twin.Told full = x -> {
            x.finder(0);
            x.hide(0, 1, 0);
            for (int i = 0; i < 20; i++) {
                Desk.rule(x, "" + i, i % 5, 0);
            }
            Desk.feed(x, "1 + 1");
        };
        Twin.Seen rules = x -> new long[] {
            x.count(6), x.count(7), x.rule(0, 0), x.count(7), x.inForce(0, 0, 0), x.inForce(3, 0, 0), x.inForce(10, 0, 0),
            x.says(0, -1, -1, 0), x.says(1, 0, 1, 0), x.says(3, -1, 1, 0), x.says(4, 0, 1, 0)};
        Twin.refuses("rule when full", full, x -> x.rule(0, 0), FULL, rules);
        Twin.refuses("rule for a LEAVE when full", full, x -> x.rule(10, 0), FULL, rules);
        Twin.refuses("a FAULT when full", x -> {
            full.to(x);
            x.feed(1, '+');
        }, x -> x.rule(0, 0), FULL, rules);
    }

    private static void fullLogs() {
        Twin.refuses("log when full", x -> {
            x.finder(0);
            x.finder(59);
            x.hide(0, 1, 0);
            for (int i = 0; i < 300; i++) {
                x.log(i % 2, 2, i % 24, i % 3 == 0 ? 1 : 0);
            }
        }, x -> x.log(0, 2, 23, 1), FULL, x -> new long[] {
            x.count(5), x.ofBody(2, 6), x.ofBody(2, 7), x.gone(2, 0), x.gone(2, 1), x.gone(2, 2), x.first(2),
            x.join(2, 1, -1), x.chance(0), x.chance(1), x.isFalse(299, 0), x.isFalse(300, 0), x.rank(0, 0, -1, 0)});
    }

    private static void fullTellings() {
        Twin.refuses("tell when full", x -> {
            x.finder(0);
            x.hide(0, 1, 0);
            x.hide(0, 1, 9);
            x.body(6);
            x.log(0, 1, 0, 1);
            x.log(0, 2, 9, 1);
            for (int i = 0; i < 12; i++) {
                x.tell(3, i % 2, 1);
            }
        }, x -> x.tell(3, 0, 1), FULL, x -> new long[] {
            x.ofBody(3, 1), x.ofBody(3, 2), x.jump(3, -1), x.jump(3, 11), x.jump(3, 12), x.chain(3)});
    }

    private static void fullAskers() {
        Twin.refuses("asks when full", x -> {
            x.finder(0);
            x.hide(0, 1, 0);
            x.leaves(0);
            for (int i = 0; i < 8; i++) {
                x.finder(11 + i);
                x.asks(2 + i, 1);
            }
            x.finder(0);
        }, x -> x.asks(10, 1), FULL, x -> new long[] {x.taker(1), x.asks(10, 1), x.take(1), x.taker(1), x.ofBody(1, 1)});
    }

    private static void fullWishes() {
        Twin.refuses("wish when full", x -> {
            x.finder(0);
            for (int i = 0; i < 8; i++) {
                x.hide(0, 1, 2 * (i % 4) + 30 * (i / 4));
                if (i < 7) {
                    x.wish(1 + i, 1 + i, i);
                }
            }
        }, x -> x.wish(8, 99, 0), FULL, x -> new long[] {
            x.judge(0, 48, 7), x.judge(0, 48, 1234567), x.judge(0, 48, 8), x.walk(0, 48), x.walked(-1), x.walked(0),
            x.walked(6), x.wish(8, 1, 1)});
    }

    private static void bigOnes() {
        Twin.refuses("nobody of 31", x -> {
            x.finder(0);
            Desk.rule(x, "0", 0, 0);
            for (int i = 0; i < 31; i++) {
                x.hide(0, 1, i);
            }
            x.lookAt(5, 1);
        }, x -> x.nobody(3), BIG, x -> new long[] {
            x.nobody(0), x.nobody(1), x.nobody(2), x.down(1), x.nobody(3), x.lookAt(5, 0), x.lookAt(6, 0)});
    }

    private static void aloneOnDay999() {
        Twin.Told last = x -> {
            for (int i = 0; i < 10; i++) {
                x.days(i == 0 ? 99 : 100);
            }
            x.finder(0);
            x.hide(0, 1, 0);
        };
        Twin.refuses("days beyond 999", last, x -> x.days(1), BAD, Village::seen);
        Twin.refuses("days far beyond 999", last, x -> x.days(100), BAD, Village::seen);
    }

    /** What is asked and answered tells nothing to the desk: asked again, all is the same. */
    private static void whatIsAskedTwice() {
        Twin.refuses("a STEP that is secret, asked for", Village::tell, x -> x.why(0, 1, 36, 0), 3, x -> new long[] {
            x.why(0, 1, 36, 0), x.why(0, 1, 36, 1), x.hide(0, 1, 36), x.hide(0, 1, 36), x.why(0, 1, 36, 0)});
        no("judge of a row that holds", 10, x -> x.judge(0, 48, 21));
        no("toPut", 0, x -> x.toPut(-1));
        no("taker", 0, x -> x.taker(OF_ONE_WHO_LEFT));
        no("solve", 6, x -> x.solve(RIDDLE, -1));
        no("rank", 1, x -> x.rank(0, TODAY, -1, 0));
        no("nobody", 1, x -> x.nobody(3));
        no("liesAt", 39, x -> x.liesAt(MANY, 999, 23));
    }
}
