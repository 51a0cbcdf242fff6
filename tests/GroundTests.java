/** Promises 1 to 13: a new object, days, ground, bodies; and count. */
final class GroundTests {
    public static void main(String[] args) {
        newObject();
        days();
        owner();
        body();
        finder();
        leaves();
        step();
        whyInOrder();
        whyOfNear();
        whyOfSecretSteps();
        whyOfLeaves();
        whyOfHide();
        hide();
        hideWhenFull();
        move();
        moveWhenFull();
        down();
        ofBody();
        ofBodyOfPutDown();
        liesAt();
        count();
        Due.end("GroundTests");
    }

    private static void newObject() {
        HillBoxes x = new HillBoxes();
        for (int what = 0; what <= 10; what++) {
            Due.be("new: count " + what, x.count(what), 0);
        }
        Due.be("new: owner", x.owner(0, -1), -1);
        Due.be("new: owner at the end", x.owner(59, -1), -1);
        Due.be("new: trace", x.trace(0), HillBoxes.BAD);
        Due.be("new: walked", x.walked(-1), HillBoxes.BAD);
        Due.be("new: ofBody", x.ofBody(0, 0), HillBoxes.VOID);
        Due.be("new: in force", x.inForce(0, 0, 0), HillBoxes.NOT);
        for (int shelf = 0; shelf < 6; shelf++) {
            Due.be("new: shelf " + shelf, x.taken(shelf, 0), -11);
        }
        Due.be("new: chance", x.chance(0), 0);
        Due.be("new: nobody", x.nobody(3), 0);
    }

    private static void days() {
        HillBoxes x = new HillBoxes();
        Due.be("days 0", x.days(0), HillBoxes.BAD);
        Due.be("days -1", x.days(-1), HillBoxes.BAD);
        Due.be("days 101", x.days(101), HillBoxes.BAD);
        Due.be("days MAX", x.days(Integer.MAX_VALUE), HillBoxes.BAD);
        Due.be("days MIN", x.days(Integer.MIN_VALUE), HillBoxes.BAD);
        Due.be("days 1", x.days(1), 1);
        for (int i = 1; i <= 9; i++) {
            Due.be("days 100", x.days(100), 1 + 100 * i);
        }
        Due.be("days beyond 999", x.days(99), HillBoxes.BAD);
        Due.be("days to 999", x.days(98), 999);
        Due.be("days 1 beyond", x.days(1), HillBoxes.BAD);
        Due.be("count of DAY", x.count(8), 999);
    }

    private static void owner() {
        HillBoxes x = new HillBoxes();
        Due.be("owner 9", x.owner(59, 9), -1);
        Due.be("owner 0", x.owner(59, 0), 9);
        Due.be("owner none", x.owner(59, -1), 0);
        Due.be("owner again", x.owner(59, 3), -1);
        Due.be("owner of another", x.owner(58, 3), -1);
        Due.be("owner 10", x.owner(59, 10), HillBoxes.VOID);
        Due.be("owner -2", x.owner(59, -2), HillBoxes.VOID);
        Due.be("cell 60", x.owner(60, 1), HillBoxes.VOID);
        Due.be("cell -1", x.owner(-1, 1), HillBoxes.VOID);
        Due.be("owner stays", x.owner(59, 1), 3);
    }

    private static void body() {
        HillBoxes x = new HillBoxes();
        int[] no = {1, 2, 3, 4, 5, 7, 8, -1, Integer.MIN_VALUE};
        for (int kind : no) {
            Due.be("body of KIND " + kind, x.body(kind), HillBoxes.BAD);
        }
        Due.be("body", x.body(0), 0);
        Due.be("thing", x.body(6), 1);
        Due.be("KIND of body", x.ofBody(0, 0), 0);
        Due.be("KIND of thing", x.ofBody(1, 0), 6);
        for (int i = 2; i < 150; i++) {
            x.body(0);
        }
        Due.be("150 bodies", x.count(0), 150);
        Due.be("body when full", x.body(0), HillBoxes.FULL);
        Due.be("thing when full", x.body(6), HillBoxes.FULL);
        Due.be("no KIND when full", x.body(1), HillBoxes.BAD);
        Due.be("the last body", x.ofBody(149, 0), 0);
        Due.be("one behind the last", x.ofBody(150, 0), HillBoxes.VOID);
        Due.be("a FINDER behind the last", x.leaves(150), HillBoxes.BAD);
        Due.be("a BOX behind the last", x.down(150), HillBoxes.BAD);
        Due.be("a THING behind the last", x.chain(150), HillBoxes.BAD);
        Due.be("one far behind", x.ofBody(Integer.MAX_VALUE, 0), HillBoxes.VOID);
        Due.be("kept behind the last", x.keep(0, 150), HillBoxes.BAD);
        Due.be("acts behind the last", x.act(150, 0, 1), 0);
    }

    private static void finder() {
        HillBoxes x = new HillBoxes();
        x.days(7);
        Due.be("finder", x.finder(59), 0);
        Due.be("finder at 0", x.finder(0), 1);
        Due.be("finder at 60", x.finder(60), HillBoxes.BAD);
        Due.be("finder at -1", x.finder(-1), HillBoxes.BAD);
        Due.be("home", x.ofBody(0, 1), 59);
        Due.be("since", x.ofBody(0, 2), 7);
        Due.be("left", x.ofBody(0, 3), -1);
        Due.be("own", x.ofBody(0, 4), 0);
        for (int i = 2; i < 150; i++) {
            x.finder(0);
        }
        Due.be("finder when full", x.finder(0), HillBoxes.FULL);
        Due.be("no cell when full", x.finder(60), HillBoxes.BAD);
    }

    private static void leaves() {
        HillBoxes x = new HillBoxes();
        x.finder(0);
        x.body(0);
        x.hide(0, 1, 30);
        x.days(3);
        Due.be("leaves", x.leaves(0), 1);
        Due.be("left on", x.ofBody(0, 3), 3);
        Due.be("leaves twice", x.leaves(0), HillBoxes.NOT);
        x.days(1);
        Due.be("leaves later", x.leaves(0), HillBoxes.NOT);
        Due.be("left on still", x.ofBody(0, 3), 3);
        Due.be("a body leaves", x.leaves(1), HillBoxes.BAD);
        Due.be("a box leaves", x.leaves(2), HillBoxes.BAD);
        Due.be("none leaves", x.leaves(3), HillBoxes.BAD);
        Due.be("-1 leaves", x.leaves(-1), HillBoxes.BAD);
        Due.be("finders", x.count(3), 1);
        Due.be("finders there", x.count(4), 0);
    }

    private static void step() {
        HillBoxes x = new HillBoxes();
        Due.be("step 60", x.step(60), HillBoxes.BAD);
        Due.be("step -1", x.step(-1), HillBoxes.BAD);
        for (int i = 1; i <= 4; i++) {
            Due.be("step " + i, x.step(59), i);
        }
        Due.be("step 5", x.step(0), HillBoxes.FULL);
        Due.be("bad step when full", x.step(60), HillBoxes.BAD);
        Due.be("steps told", x.count(9), 4);
    }

    private static void whyInOrder() {
        HillBoxes x = new HillBoxes();
        x.finder(0);
        Due.be("no finder", x.why(1, 1, 0, 0), HillBoxes.BAD);
        Due.be("KIND 0", x.why(0, 0, 0, 0), HillBoxes.BAD);
        Due.be("KIND 6", x.why(0, 6, 0, 0), HillBoxes.BAD);
        Due.be("cell -1", x.why(0, 1, -1, 0), HillBoxes.BAD);
        Due.be("cell 60", x.why(0, 1, 60, 0), HillBoxes.BAD);
        Due.be("what -1", x.why(0, 1, 0, -1), HillBoxes.BAD);
        Due.be("what 2", x.why(0, 1, 0, 2), HillBoxes.BAD);
        Due.be("MANY without steps", x.why(0, 3, 0, 0), HillBoxes.BAD);
        for (int kind = 1; kind <= 5; kind++) {
            if (kind != 3) {
                Due.be("KIND " + kind, x.why(0, kind, 0, 0), 0);
            }
        }
        x.hide(0, 1, 0);
        x.owner(1, 4);
        Due.be("LEAVE ahead of near", x.why(0, 1, 1, 0), 2);
        Desk.rule(x, "kind < 1", 1, 0);
        Due.be("HIDE ahead of LEAVE", x.why(0, 1, 1, 1), 1);
        Desk.rule(x, "hour or not 1", 1, 0);
        Due.be("HIDE without an hour", x.why(0, 1, 9, 1), 1);
        Desk.rule(x, "1", 1, 0);
        Desk.rule(x, "hour or day", 14, 0);
        Due.be("LEAVE without an hour", x.why(0, 1, 1, 1), 2);
        Desk.rule(x, "not hour", 14, 0);
        Due.be("LEAVE, then near", x.why(0, 1, 1, 1), 3);
    }

    private static void whyOfNear() {
        HillBoxes x = new HillBoxes();
        x.finder(0);
        x.hide(0, 4, 22);
        Due.be("FAR 1", x.why(0, 1, 23, 0), 3);
        Due.be("FAR 2 over a corner", x.why(0, 1, 33, 0), 0);
        Due.be("FAR 2", x.why(0, 1, 24, 1), 0);
        Due.be("FAR 0", x.why(0, 1, 22, 1), 3);
        x.move(1, 55, 23);
        Due.be("moved away", x.why(0, 1, 22, 1), 0);
        Due.be("moved near", x.why(0, 1, 54, 1), 3);
        x.down(1);
        Due.be("put down", x.why(0, 1, 55, 1), 0);
        x.hide(0, 1, 0);
        Desk.rule(x, "15 + day", 0, 0);
        Due.be("NEAR 15: FAR 14", x.why(0, 1, 59, 1), 3);
        Desk.rule(x, "0 - 1", 0, 0);
        Due.be("NEAR below 0", x.why(0, 1, 0, 1), 0);
        Desk.rule(x, "day", 0, 0);
        Due.be("NEAR 0", x.why(0, 1, 0, 1), 0);
        x.days(1);
        Due.be("NEAR 1", x.why(0, 1, 0, 1), 3);
        Due.be("NEAR 1 beside", x.why(0, 1, 1, 1), 0);
    }

    private static void whyOfSecretSteps() {
        HillBoxes x = new HillBoxes();
        x.finder(0);
        x.step(30);
        x.step(35);
        x.step(59);
        Due.be("MANY", x.hide(0, 3, 0), 1);
        Due.be("where it lies", x.why(0, 1, 58, 1), 3);
        Due.be("its first CELL", x.why(0, 1, 10, 1), 3);
        Due.be("a secret step, to the asker", x.why(0, 1, 31, 0), 3);
        Due.be("a secret step, to the desk", x.why(0, 1, 31, 1), 4);
        Due.be("the second secret step, to the desk", x.why(0, 1, 35, 1), 4);
        Due.be("asked again", x.why(0, 1, 35, 0), 3);
        Due.be("hidden at a secret step", x.hide(0, 1, 35), -23);
        Due.be("far from all", x.why(0, 1, 33, 1), 0);
        x.hide(0, 1, 33);
        Due.be("near to one and to a secret one", x.why(0, 1, 34, 1), 3);
        // a MANY is asked for where it would lie, not for its first CELL
        x.step(31);
        Due.be("MANY to a secret step", x.why(0, 3, 9, 1), 4);
        x.step(7);
        Due.be("MANY past a secret step", x.why(0, 3, 0, 1), 0);
        x.down(1);
        Due.be("MANY put down: its secret", x.why(0, 1, 31, 1), 0);
        Due.be("MANY put down: its first", x.why(0, 1, 0, 1), 0);
        Due.be("MANY put down: its last", x.why(0, 1, 59, 1), 0);
    }

    private static void whyOfLeaves() {
        HillBoxes x = new HillBoxes();
        x.finder(0);
        x.owner(5, 0);
        x.owner(9, 9);
        Due.be("an OWNER without a LEAVE", x.why(0, 1, 5, 0), 2);
        Desk.rule(x, "home = 5 and kind = 1 and since = day and own = 0", 10, 0);
        Due.be("LEAVE", x.why(0, 1, 5, 0), 0);
        Due.be("LEAVE for another KIND", x.why(0, 2, 5, 0), 2);
        Due.be("LEAVE of another OWNER", x.why(0, 1, 9, 0), 2);
        Desk.rule(x, "1", 19, 1);
        Due.be("LEAVE for a later DAY", x.why(0, 1, 9, 0), 2);
        x.days(1);
        Due.be("LEAVE on its DAY", x.why(0, 1, 9, 0), 0);
        x.owner(50, 3);
        x.step(50);
        x.step(55);
        Due.be("a STEP without a LEAVE", x.why(0, 3, 0, 0), 2);
        Due.be("STEPS are of MANY alone", x.why(0, 1, 0, 0), 0);
        Desk.rule(x, "home", 13, 0);
        Due.be("a STEP with one", x.why(0, 3, 0, 0), 0);
        Due.be("home of the CELL, not of a STEP", x.why(0, 3, 50, 0), 0);
        Desk.rule(x, "home = 0", 13, 0);
        Due.be("home of the STEP", x.why(0, 3, 0, 0), 2);
        x.owner(0, 3);
        x.owner(50, -1);
        Due.be("home of the CELL", x.why(0, 3, 0, 0), 0);
        Desk.rule(x, "paper or mine or age or finds or misses or hour", 13, 0);
        Due.be("of a BOX that there is not", x.why(0, 1, 0, 0), 2);
    }

    private static void whyOfHide() {
        HillBoxes x = new HillBoxes();
        x.finder(7);
        x.finder(0);
        Desk.rule(x, "own < 1 and home > 2", 1, 0);
        Due.be("own 0, home 7", x.why(0, 1, 0, 0), 0);
        Due.be("home 2", x.why(0, 1, 9, 0), 1);
        x.step(7);
        Due.be("HIDE is asked by the CELL told", x.why(0, 3, 0, 0), 0);
        x.step(0);
        Due.be("HIDE is asked by the CELL told alone", x.why(0, 3, 8, 0), 1);
        x.hide(0, 1, 0);
        Due.be("own 1", x.why(0, 1, 50, 0), 1);
        Due.be("own of another", x.why(1, 1, 50, 0), 0);
        x.down(2);
        Due.be("own 0 again", x.why(0, 1, 50, 0), 0);
        x.leaves(0);
        Due.be("left", x.why(0, 1, 50, 0), 1);
        Due.be("left, to the desk", x.why(0, 1, 50, 1), 1);
    }

    private static void hide() {
        HillBoxes x = new HillBoxes();
        x.days(2);
        x.finder(0);
        Due.be("no finder", x.hide(1, 1, 0), HillBoxes.BAD);
        Due.be("KIND 0", x.hide(0, 0, 0), HillBoxes.BAD);
        Due.be("KIND 6", x.hide(0, 6, 0), HillBoxes.BAD);
        Due.be("cell 60", x.hide(0, 1, 60), HillBoxes.BAD);
        Due.be("MANY without steps", x.hide(0, 3, 0), HillBoxes.BAD);
        x.step(20);
        Due.be("BOX", x.hide(0, 1, 0), 1);
        Due.be("steps are none behind any KIND", x.count(9), 0);
        x.step(3);
        Due.be("too near", x.hide(0, 1, 1), -23);
        Due.be("steps stay", x.count(9), 1);
        x.owner(5, 1);
        Due.be("no LEAVE", x.hide(0, 1, 5), -22);
        Due.be("bad", x.hide(0, 9, 5), HillBoxes.BAD);
        Due.be("steps stay still", x.count(9), 1);
        x.step(59);
        Due.be("MANY", x.hide(0, 3, 30), 2);
        Due.be("it lies at the last step", x.ofBody(2, 5), 59);
        Due.be("steps are none", x.count(9), 0);
        Due.be("KEEPER", x.ofBody(2, 1), 0);
        Due.be("hidden on", x.ofBody(2, 3), 2);
        x.leaves(0);
        Due.be("left", x.hide(0, 1, 55), -21);
    }

    private static void hideWhenFull() {
        HillBoxes x = new HillBoxes();
        x.finder(0);
        for (int i = 1; i < 150; i++) {
            x.body(0);
        }
        x.step(7);
        x.owner(1, 0);
        Due.be("WHY ahead of FULL", x.hide(0, 1, 1), -22);
        Due.be("hide when full", x.hide(0, 3, 0), HillBoxes.FULL);
        Due.be("steps stay when full", x.count(9), 1);
        Due.be("boxes", x.count(1), 0);
    }

    private static void move() {
        HillBoxes x = new HillBoxes();
        x.finder(0);
        x.hide(0, 4, 0);
        x.hide(0, 1, 30);
        Due.be("a BOX", x.move(2, 0, 0), HillBoxes.BAD);
        Due.be("a finder", x.move(0, 0, 0), HillBoxes.BAD);
        Due.be("none", x.move(3, 0, 0), HillBoxes.BAD);
        Due.be("cell 60", x.move(1, 60, 0), HillBoxes.BAD);
        Due.be("hour 24", x.move(1, 0, 24), HillBoxes.BAD);
        Due.be("hour -1", x.move(1, 0, -1), HillBoxes.BAD);
        Due.be("move", x.move(1, 9, 5), 1);
        Due.be("in that hour", x.move(1, 8, 5), HillBoxes.STATE);
        Due.be("ahead of it", x.move(1, 8, 4), HillBoxes.STATE);
        Due.be("to the same CELL", x.move(1, 9, 6), 1);
        Due.be("behind that", x.move(1, 9, 6), HillBoxes.STATE);
        x.log(0, 1, 10, 0);
        Due.be("in the hour of a LOG", x.move(1, 7, 10), HillBoxes.STATE);
        Due.be("ahead of a LOG", x.move(1, 7, 9), HillBoxes.STATE);
        Due.be("behind a LOG", x.move(1, 7, 11), 1);
        x.log(0, 2, 23, 1);
        Due.be("a LOG of another BOX", x.move(1, 6, 23), 1);
        x.days(1);
        Due.be("the next DAY", x.move(1, 5, 0), 1);
        Due.be("it lay", x.liesAt(1, 0, 4), 0);
        Due.be("it lay from 5 on", x.liesAt(1, 0, 5), 9);
        Due.be("it lay from 11 on", x.liesAt(1, 0, 11), 7);
        Due.be("it lay at 22", x.liesAt(1, 0, 22), 7);
        Due.be("it lay from 23 on", x.liesAt(1, 0, 23), 6);
        Due.be("it lies", x.liesAt(1, 1, 0), 5);
        Due.be("it will lie", x.liesAt(1, 999, 23), 5);
        x.down(1);
        Due.be("put down", x.move(1, 5, 20), HillBoxes.STATE);
        Due.be("put down, bad hour", x.move(1, 5, 24), HillBoxes.BAD);
    }

    private static void moveWhenFull() {
        HillBoxes x = new HillBoxes();
        x.finder(0);
        x.hide(0, 4, 0);
        x.hide(0, 4, 30);
        for (int i = 0; i < 200; i++) {
            if (i % 24 == 0) {
                x.days(1);
            }
            Due.be("move " + i, x.move(1, i % 60, i % 24), 1);
        }
        Due.be("STATE ahead of FULL", x.move(1, 0, 7), HillBoxes.STATE);
        Due.be("move 201", x.move(1, 0, 8), HillBoxes.FULL);
        Due.be("move 201 of another", x.move(2, 0, 0), HillBoxes.FULL);
        Due.be("where it lies", x.ofBody(1, 5), 199 % 60);
        Due.be("where another lies", x.ofBody(2, 5), 30);
    }

    private static void down() {
        HillBoxes x = new HillBoxes();
        x.finder(0);
        x.hide(0, 1, 0);
        x.days(4);
        Due.be("a finder", x.down(0), HillBoxes.BAD);
        Due.be("none", x.down(2), HillBoxes.BAD);
        Due.be("-1", x.down(-1), HillBoxes.BAD);
        Due.be("not put down", x.ofBody(1, 4), -1);
        Due.be("down", x.down(1), 1);
        Due.be("put down on", x.ofBody(1, 4), 4);
        x.days(1);
        Due.be("down again", x.down(1), HillBoxes.NOT);
        Due.be("put down on still", x.ofBody(1, 4), 4);
    }

    private static void ofBody() {
        HillBoxes x = new HillBoxes();
        x.body(0);
        x.finder(12);
        x.body(6);
        x.step(9);
        x.days(3);
        x.hide(1, 3, 30);
        x.hide(1, 5, 55);
        x.log(1, 3, 8, 1);
        x.log(1, 3, 9, 0);
        x.log(1, 3, 7, 0);
        x.log(1, 3, 8, 0);
        Due.row("of a BODY", all(x, 0), 0, v, v, v, v, v, v, v, v);
        Due.row("of a FINDER", all(x, 1), 7, 12, 0, -1, 2, v, v, v, v);
        Due.row("of a THING", all(x, 2), 6, -1, 0, v, v, v, v, v, v);
        Due.row("of a MANY", all(x, 3), 3, 1, 30, 3, -1, 9, 1, 2, v);
        Due.row("of a NIGHT one", all(x, 4), 5, 1, 55, 3, -1, 55, 0, 0, v);
        Due.row("of none", all(x, 5), v, v, v, v, v, v, v, v, v);
        Due.be("what -1", x.ofBody(1, -1), v);
        Due.be("body -1", x.ofBody(-1, 0), v);
        x.tell(2, 0, 0);
        Due.be("taken: with the FINDER", x.ofBody(2, 1), 1);
        x.tell(2, 0, 1);
        Due.be("left: in the BOX", x.ofBody(2, 1), 3);
        Due.be("tellings", x.ofBody(2, 2), 2);
        x.log(1, 4, 1, 0);
        Due.be("misses without a find", x.ofBody(4, 7), 1);
        x.log(1, 4, 0, 1);
        Due.be("misses behind a find ahead", x.ofBody(4, 7), 1);
        x.log(1, 4, 1, 1);
        Due.be("misses behind a find of the same moment", x.ofBody(4, 7), 0);
        x.log(1, 4, 1, 0);
        Due.be("misses of the same moment, a later LOG", x.ofBody(4, 7), 1);
        Due.be("finds", x.ofBody(4, 6), 2);
    }

    private static final long v = HillBoxes.VOID;

    private static long[] all(HillBoxes x, int body) {
        long[] answers = new long[9];
        for (int what = 0; what < 9; what++) {
            answers[what] = x.ofBody(body, what);
        }
        return answers;
    }

    private static void ofBodyOfPutDown() {
        HillBoxes x = new HillBoxes();
        x.finder(0);
        x.hide(0, 4, 22);
        x.days(1);
        x.move(1, 33, 9);
        x.days(1);
        x.down(1);
        Due.be("where it lay at last", x.ofBody(1, 5), 33);
        Due.be("its CELL", x.ofBody(1, 2), 33);
        Due.be("own", x.ofBody(0, 4), 0);
        x.hide(0, 4, 22);
        Due.be("own 1", x.ofBody(0, 4), 1);
        x.step(1);
        x.step(2);
        x.hide(0, 3, 50);
        Due.be("own 2", x.ofBody(0, 4), 2);
        x.down(3);
        Due.be("where a MANY lay at last", x.ofBody(3, 5), 2);
        Due.be("its first CELL", x.ofBody(3, 2), 50);
    }

    private static void liesAt() {
        HillBoxes x = new HillBoxes();
        x.finder(0);
        x.days(5);
        x.step(9);
        x.hide(0, 3, 0);
        x.days(2);
        x.down(1);
        Due.be("ahead of its hiding", x.liesAt(1, 4, 23), HillBoxes.NOT);
        Due.be("from its hiding on", x.liesAt(1, 5, 0), 9);
        Due.be("up to its end", x.liesAt(1, 6, 23), 9);
        Due.be("put down", x.liesAt(1, 7, 0), HillBoxes.NOT);
        Due.be("DAY 999", x.liesAt(1, 999, 23), HillBoxes.NOT);
        Due.be("DAY 1000", x.liesAt(1, 1000, 0), HillBoxes.BAD);
        Due.be("DAY -1", x.liesAt(1, -1, 0), HillBoxes.BAD);
        Due.be("HOUR 24", x.liesAt(1, 5, 24), HillBoxes.BAD);
        Due.be("HOUR -1", x.liesAt(1, 5, -1), HillBoxes.BAD);
        Due.be("a finder", x.liesAt(0, 5, 0), HillBoxes.BAD);
        Due.be("none", x.liesAt(2, 5, 0), HillBoxes.BAD);
        x.hide(0, 1, 33);
        Due.be("a day to come", x.liesAt(2, 999, 23), 33);
        x.down(2);
        Due.be("hidden and put down on one DAY", x.liesAt(2, 7, 23), HillBoxes.NOT);
    }

    private static void count() {
        HillBoxes x = new HillBoxes();
        x.days(6);
        x.finder(0);
        x.finder(1);
        x.finder(2);
        x.leaves(1);
        x.body(0);
        x.body(6);
        x.hide(0, 1, 0);
        x.hide(0, 1, 20);
        x.hide(0, 1, 40);
        x.down(6);
        x.log(0, 5, 0, 1);
        Desk.rule(x, "1", 0, 0);
        Desk.rule(x, "1", 1, 0);
        x.feed(3, 0);
        x.step(0);
        x.step(0);
        x.act(0, 3, 1);
        long[] answers = new long[11];
        for (int what = 0; what < 11; what++) {
            answers[what] = x.count(what);
        }
        Due.row("count", answers, 8, 3, 2, 3, 2, 1, 2, 3, 6, 2, 6);
        Due.be("count -1", x.count(-1), HillBoxes.BAD);
        Due.be("count 11", x.count(11), HillBoxes.BAD);
    }
}
