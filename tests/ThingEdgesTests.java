/** Section 6 of the document, a sentence a test: where tellings, jumps, askers, takers and DOWN begin and end. */
final class ThingEdgesTests {
    private static final int BAD = HillBoxes.BAD, NOT = HillBoxes.NOT, FULL = HillBoxes.FULL;

    public static void main(String[] args) {
        tellingsAre12AThing();
        tellWithALogThatSaysFound();
        takenOrLeft();
        notSeenSince();
        whereByTheLastTelling();
        theFirstTellingIsAJump();
        takenFromWhereItWasNot();
        leftByOneThatDidNotHaveIt();
        theIthJump();
        chainOfNoneAndOfOne();
        chainByLeftOnes();
        chainWhereOneLayNowhere();
        chainAsAtTheseLogs();
        askersAre8ABox();
        theKeeperDidNotLeave();
        askedOrLeft();
        anyKindAndOnePutDownMayBeAskedFor();
        ofFindersThere();
        whomHideLets();
        theLeastFar();
        ofLikeOnesTheLeast();
        farToWhereItLies();
        noneMayTakeIt();
        theAskingIsNoneThen();
        downGivesNot0();
        theIthToPut();
        putAllOfThese();
        putDownTheyAreNoneOfThese();
        Due.end("ThingEdgesTests");
    }

    /** FINDERS 0 and 1, BOXES 2 (at 0) and 3 (at 59), THINGS 4 and 5; LOGS 0 (0 of 2), 1 (1 of 3), 2 (0 of 3). */
    private static HillBoxes ground() {
        HillBoxes x = new HillBoxes();
        x.finder(0);
        x.finder(59);
        x.hide(0, 1, 0);
        x.hide(1, 1, 59);
        x.body(6);
        x.body(6);
        x.log(0, 2, 1, 1);
        x.log(1, 3, 2, 1);
        x.log(0, 3, 20, 1);
        return x;
    }

    // ---- THINGS

    /** "FULL: 12 a THING". */
    private static void tellingsAre12AThing() {
        HillBoxes x = ground();
        for (int i = 1; i <= 12; i++) {
            Due.be("telling " + i, x.tell(4, i % 3, i % 2), i);
        }
        Due.be("telling 13", x.tell(4, 0, 1), FULL);
        Due.be("BAD goes first", x.tell(4, 3, 1), BAD);
        Due.be("how many", x.ofBody(4, 2), 12);
        Due.be("WHERE: the 12th, TAKEN", x.ofBody(4, 1), 0);
        Due.be("the other THING", x.tell(5, 0, 1), 1);
    }

    /** "BAD (also a LOG that says not found)". */
    private static void tellWithALogThatSaysFound() {
        HillBoxes x = ground();
        x.log(0, 2, 3, 0);
        for (int log : new int[] {Integer.MIN_VALUE, -1, 0, 2, 3, 4, 299, 300, Integer.MAX_VALUE}) {
            Due.be("tell with LOG " + log, x.tell(5, log, 1), log == 0 ? 1 : log == 2 ? 2 : BAD);
        }
        HillBoxes y = new HillBoxes();
        y.body(6);
        Due.be("no LOGS at all", y.tell(0, 0, 0), BAD);
    }

    /** "TAKEN (0), LEFT (1)". */
    private static void takenOrLeft() {
        HillBoxes x = ground();
        for (int left = -1; left <= 2; left++) {
            Due.be("left " + left, x.tell(4, 0, left), left == 0 ? 1 : left == 1 ? 2 : BAD);
        }
    }

    /** "in a BOX, with a FINDER, or not seen since (at first so)". */
    private static void notSeenSince() {
        HillBoxes x = ground();
        Due.be("at first", x.ofBody(4, 1), -1);
        Due.be("tellings at first", x.ofBody(4, 2), 0);
        x.tell(4, 0, 0);
        Due.be("with FINDER 0", x.ofBody(4, 1), 0);
        Due.be("the other one still", x.ofBody(5, 1), -1);
    }

    /** "WHERE: by the last telling": not by the last LOG. */
    private static void whereByTheLastTelling() {
        HillBoxes x = ground();
        x.tell(4, 2, 1);
        Due.be("LEFT in BOX 3", x.ofBody(4, 1), 3);
        x.tell(4, 0, 1);
        Due.be("LEFT in BOX 2", x.ofBody(4, 1), 2);
        x.tell(4, 1, 0);
        Due.be("TAKEN by FINDER 1", x.ofBody(4, 1), 1);
        x.leaves(1);
        x.down(3);
        Due.be("with one that LEFT", x.ofBody(4, 1), 1);
    }

    /** "(the first telling is one)": TAKEN or LEFT. */
    private static void theFirstTellingIsAJump() {
        for (int left = 0; left <= 1; left++) {
            HillBoxes x = ground();
            Due.be("no tellings", x.jump(4, -1), 0);
            x.tell(4, 0, left);
            Due.be("the first, left " + left, x.jump(4, -1), 1);
            Due.be("its place", x.jump(4, 0), 0);
        }
    }

    /** "TAKEN from a BOX where by the telling ahead it was not". */
    private static void takenFromWhereItWasNot() {
        HillBoxes x = ground();
        x.tell(4, 0, 1);
        x.tell(4, 0, 0);
        Due.be("TAKEN where it was", x.jump(4, -1), 1);
        x.tell(4, 0, 0);
        Due.be("TAKEN again by the one who has it", x.jump(4, -1), 2);
        x.tell(4, 2, 1);
        Due.be("LEFT by the one who has it", x.jump(4, -1), 2);
        x.tell(4, 0, 0);
        Due.be("TAKEN from another BOX", x.jump(4, -1), 3);
        x.tell(4, 2, 1);
        x.tell(4, 1, 0);
        Due.be("TAKEN where it was, by another one", x.jump(4, -1), 3);
    }

    /** "or LEFT by a FINDER that did not have it by that". */
    private static void leftByOneThatDidNotHaveIt() {
        HillBoxes x = ground();
        x.tell(4, 0, 0);
        x.tell(4, 1, 1);
        Due.be("LEFT by another one", x.jump(4, -1), 2);
        x.tell(4, 1, 1);
        Due.be("LEFT where it is", x.jump(4, -1), 3);
        x.tell(4, 1, 0);
        x.tell(4, 1, 1);
        Due.be("TAKEN and LEFT by one", x.jump(4, -1), 3);
    }

    /** "how many (i -1), the i-th (the place of the telling). BAD (also none such)". */
    private static void theIthJump() {
        HillBoxes x = ground();
        int[] tellings = {0, 0, 0, 0, 1, 0, 0, 1};
        for (int i = 0; i < tellings.length; i += 2) {
            x.tell(4, tellings[i], tellings[i + 1]);
        }
        // 0 TAKEN (first), 0 TAKEN again (jump), 1 TAKEN (jump), 0 LEFT by one without it (jump)
        int[] asked = {Integer.MIN_VALUE, -2, -1, 0, 1, 2, 3, 4, Integer.MAX_VALUE};
        Due.be("how many", x.jump(4, -1), 4);
        for (int i : asked) {
            Due.be("jump " + i, x.jump(4, i), i == -1 ? 4 : i >= 0 && i < 4 ? i : BAD);
        }
        for (int i : asked) {
            Due.be("jump of one without any " + i, x.jump(5, i), i == -1 ? 0 : BAD);
        }
    }

    /** "how many FAR in all it went by LEFT ones": 0 without two of them. */
    private static void chainOfNoneAndOfOne() {
        HillBoxes x = ground();
        Due.be("no telling", x.chain(4), 0);
        x.tell(4, 0, 0);
        x.tell(4, 1, 0);
        Due.be("TAKEN ones alone", x.chain(4), 0);
        x.tell(4, 0, 1);
        Due.be("one LEFT", x.chain(4), 0);
        x.tell(4, 1, 1);
        Due.be("two LEFT", x.chain(4), 14);
    }

    /** "from where the BOX of one lay to that of the next one": TAKEN ones between count nothing. */
    private static void chainByLeftOnes() {
        HillBoxes x = ground();
        x.hide(0, 1, 9);
        x.log(0, 6, 4, 1);
        x.tell(4, 0, 1);
        x.tell(4, 3, 0);
        x.tell(4, 0, 1);
        Due.be("back where it was", x.chain(4), 0);
        x.tell(4, 3, 1);
        x.tell(4, 1, 1);
        x.tell(4, 0, 1);
        Due.be("around", x.chain(4), 9 + 5 + 14);
        for (int i = 0; i < 6; i++) {
            x.tell(5, i % 2, 1);
            x.tell(5, i % 2, 1);
        }
        Due.be("12 LEFT ones", x.chain(5), 14 * 5);
    }

    /** "0 where one lay nowhere". */
    private static void chainWhereOneLayNowhere() {
        HillBoxes x = ground();
        x.days(1);
        x.hide(0, 1, 9);
        x.log(0, 6, 23, 1);
        x.log(0, 6, 24, 1);
        x.tell(4, 0, 1);
        x.tell(4, 3, 1);
        x.tell(4, 1, 1);
        Due.be("to one that was not hidden, and on from it", x.chain(4), 0);
        x.tell(4, 4, 1);
        Due.be("to it when it was", x.chain(4), 5);
        x.down(6);
        Due.be("PUT DOWN on that DAY", x.chain(4), 0);
        x.tell(4, 1, 1);
        x.tell(4, 0, 1);
        Due.be("on from there", x.chain(4), 14);
    }

    /** "as at these LOGS": where a WANDERING one lay then, and a MANY at its last STEP. */
    private static void chainAsAtTheseLogs() {
        HillBoxes x = ground();
        x.hide(0, 4, 30);
        x.step(53);
        x.step(55);
        x.hide(0, 3, 33);
        x.log(0, 6, 10, 1);
        x.move(6, 34, 11);
        x.log(0, 6, 11, 1);
        x.move(6, 9, 12);
        x.log(0, 7, 12, 1);
        x.tell(4, 3, 1);
        x.tell(4, 4, 1);
        Due.be("from 30 to 34", x.chain(4), 4);
        x.tell(4, 5, 1);
        Due.be("to 55", x.chain(4), 4 + 3);
    }

    // ---- KEEPERS that LEFT

    /** A BOX 1 at 33 whose KEEPER 0 LEFT, then FINDERS from 2 on with these homes. */
    private static HillBoxes orphan(int... homes) {
        HillBoxes x = new HillBoxes();
        x.finder(0);
        x.hide(0, 1, 33);
        x.leaves(0);
        for (int home : homes) {
            x.finder(home);
        }
        return x;
    }

    /** "(told, at most 8 a BOX)"; "FULL: 8". */
    private static void askersAre8ABox() {
        HillBoxes x = orphan(1, 2, 3, 4, 5, 6, 7, 8, 33);
        for (int i = 1; i <= 8; i++) {
            Due.be("asker " + i, x.asks(1 + i, 1), i);
        }
        Due.be("asker 9", x.asks(10, 1), FULL);
        Due.be("asked goes first", x.asks(9, 1), BAD);
        Due.be("it is none of them", x.taker(1), 4);
        x.leaves(10);
        Due.be("LEFT goes first", x.asks(10, 1), BAD);
        x.leaves(4);
        x.finder(34);
        Due.be("one that LEFT is one of 8 still", x.asks(11, 1), FULL);
        Due.be("the next one", x.taker(1), 3);
    }

    /** "NOT: the KEEPER did not leave". */
    private static void theKeeperDidNotLeave() {
        HillBoxes x = new HillBoxes();
        x.finder(0);
        x.finder(9);
        x.hide(0, 1, 33);
        Due.be("ahead of its leaving", x.asks(1, 2), NOT);
        Due.be("by the KEEPER", x.asks(0, 2), NOT);
        x.leaves(1);
        Due.be("LEFT goes first", x.asks(1, 2), BAD);
        x.finder(9);
        x.leaves(0);
        Due.be("on the DAY of its leaving", x.asks(3, 2), 1);
    }

    /** "BAD (also asked, or it LEFT)". */
    private static void askedOrLeft() {
        HillBoxes x = orphan(1, 2);
        Due.be("asks", x.asks(2, 1), 1);
        Due.be("asked", x.asks(2, 1), BAD);
        x.leaves(3);
        Due.be("it LEFT", x.asks(3, 1), BAD);
        Due.be("the KEEPER that LEFT", x.asks(0, 1), BAD);
        for (int box : new int[] {-1, 0, 2, 4, 150}) {
            Due.be("asks for " + box, x.asks(2, box), BAD);
        }
    }

    /** "a BOX of such may be TAKEN OVER": of any KIND, and one that is PUT DOWN. */
    private static void anyKindAndOnePutDownMayBeAskedFor() {
        for (int kind = 1; kind <= 5; kind++) {
            HillBoxes x = new HillBoxes();
            x.finder(0);
            x.finder(9);
            x.step(30);
            x.hide(0, kind, 30);
            x.down(2);
            x.leaves(0);
            Due.be("asks for KIND " + kind, x.asks(1, 2), 1);
            Due.be("takes it over", x.take(2), 1);
            Due.be("KEEPER", x.ofBody(2, 1), 1);
        }
    }

    /** "of FINDERS THERE that asked". */
    private static void ofFindersThere() {
        HillBoxes x = orphan(33, 34, 59);
        x.asks(3, 1);
        x.asks(4, 1);
        Due.be("one that did not ask", x.taker(1), 3);
        x.leaves(3);
        Due.be("one that asked and LEFT", x.taker(1), 4);
        x.leaves(4);
        Due.be("all that asked LEFT", x.taker(1), NOT);
        Due.be("take", x.take(1), NOT);
        x.asks(2, 1);
        Due.be("one THERE", x.taker(1), 2);
    }

    /** "whom HIDE lets (KIND of the BOX, home to where it lies)". */
    private static void whomHideLets() {
        HillBoxes x = orphan(33, 36, 39);
        for (int finder = 2; finder <= 4; finder++) {
            x.asks(finder, 1);
        }
        Desk.rule(x, "home > 2", 1, 0);
        Due.be("home above 2", x.taker(1), 3);
        Desk.rule(x, "home > 5", 1, 0);
        Due.be("home above 5", x.taker(1), 4);
        Desk.rule(x, "home > 6", 1, 0);
        Due.be("home above 6", x.taker(1), NOT);
        Desk.rule(x, "kind = 1 and home < 1", 1, 0);
        Due.be("KIND 1", x.taker(1), 2);
        Desk.rule(x, "kind = 2", 1, 0);
        Due.be("KIND 2", x.taker(1), NOT);
        Desk.rule(x, "1", 1, 1);
        Due.be("not TODAY yet", x.taker(1), NOT);
        x.days(1);
        Due.be("TODAY", x.taker(1), 2);
        Desk.rule(x, "0 - 3", 1, 0);
        Due.be("not 0 is yes", x.taker(1), 2);
        x.owner(33, 3);
        Due.be("LEAVES are not asked", x.taker(1), 2);
    }

    /** "the one with the least FAR from home to where it lies". */
    private static void theLeastFar() {
        HillBoxes x = orphan(0, 59, 53, 43);
        int[] due = {2, 2, 4, 5};
        for (int i = 0; i < 4; i++) {
            x.asks(2 + i, 1);
            Due.be("of " + (i + 1), x.taker(1), due[i]);
        }
        // FINDER 0 may be the nearest one, and a later one a farther one
        HillBoxes y = new HillBoxes();
        y.finder(33);
        y.finder(0);
        y.finder(59);
        y.hide(1, 1, 33);
        y.leaves(1);
        y.asks(0, 3);
        y.asks(2, 3);
        Due.be("FINDER 0, at FAR 0", y.taker(3), 0);
        Due.be("FINDER 0 takes it over", y.take(3), 0);
        HillBoxes z = new HillBoxes();
        z.finder(0);
        z.finder(0);
        z.finder(59);
        z.hide(1, 1, 33);
        z.leaves(1);
        z.asks(0, 3);
        z.asks(2, 3);
        Due.be("FINDER 0, at FAR 6 of 6 and 8", z.taker(3), 0);
    }

    /** "of like ones the least". */
    private static void ofLikeOnesTheLeast() {
        HillBoxes x = orphan(43, 32, 34, 23);
        int[] order = {4, 5, 3, 2};
        int[] due = {4, 4, 3, 2};
        for (int i = 0; i < 4; i++) {
            x.asks(order[i], 1);
            Due.be("asked by " + order[i], x.taker(1), due[i]);
        }
    }

    /** "to where it lies": of a MANY at its last STEP, of a WANDERING one now. */
    private static void farToWhereItLies() {
        HillBoxes x = new HillBoxes();
        x.finder(0);
        x.finder(0);
        x.finder(59);
        x.step(59);
        x.hide(0, 3, 0);
        x.hide(0, 4, 5);
        x.leaves(0);
        for (int box = 3; box <= 4; box++) {
            x.asks(1, box);
            x.asks(2, box);
        }
        Due.be("a MANY", x.taker(3), 2);
        Due.be("a WANDERING one", x.taker(4), 1);
        x.move(4, 57, 23);
        Due.be("a WANDERING one in a late HOUR", x.taker(4), 2);
    }

    /** "NOT: none". */
    private static void noneMayTakeIt() {
        HillBoxes x = orphan(5);
        Due.be("nobody asked", x.taker(1), NOT);
        Due.be("nobody takes it", x.take(1), NOT);
        Due.be("KEEPER still", x.ofBody(1, 1), 0);
        Desk.rule(x, "0", 1, 0);
        x.asks(2, 1);
        Due.be("HIDE lets nobody", x.take(1), NOT);
        Due.be("the asking stays", x.asks(2, 1), BAD);
        Desk.rule(x, "1", 1, 0);
        Due.be("HIDE lets it", x.take(1), 2);
    }

    /** "the new KEEPER (the asking is none then)". */
    private static void theAskingIsNoneThen() {
        HillBoxes x = orphan(33, 34);
        x.asks(2, 1);
        x.asks(3, 1);
        Due.be("take", x.take(1), 2);
        Due.be("nobody asks", x.take(1), NOT);
        Due.be("the KEEPER did not leave", x.asks(3, 1), NOT);
        x.leaves(2);
        Due.be("asks anew", x.asks(3, 1), 1);
        Due.be("take", x.take(1), 3);
        Due.be("own", x.ofBody(3, 4), 1);
    }

    // ---- DOWN

    /** A FINDER 0 and BOXES 1 .. 4 of KINDS 1, 2, 4, 5. */
    private static HillBoxes four() {
        HillBoxes x = new HillBoxes();
        x.finder(0);
        int[] kinds = {1, 2, 4, 5};
        for (int i = 0; i < 4; i++) {
            x.hide(0, kinds[i], 3 * i);
        }
        return x;
    }

    /** "those (not PUT DOWN) for which DOWN gives not 0 TODAY". */
    private static void downGivesNot0() {
        HillBoxes x = four();
        Due.be("without a RULE", x.toPut(-1), 0);
        int[] counts = {0, 4, 4, 1, 3};
        String[] texts = {"0", "1", "0 - 1", "kind = 4", "kind - 2"};
        for (int i = 0; i < texts.length; i++) {
            Desk.rule(x, texts[i], 3, 0);
            Due.be("by " + texts[i], x.toPut(-1), counts[i]);
        }
        Desk.rule(x, "1", 3, 1);
        Due.be("for tomorrow", x.toPut(-1), 3);
        x.days(1);
        Due.be("TODAY", x.toPut(-1), 4);
    }

    /** "how many (i -1), the i-th BOX. BAD (also none such)". */
    private static void theIthToPut() {
        HillBoxes x = four();
        Desk.rule(x, "kind > 1", 3, 0);
        int[] asked = {Integer.MIN_VALUE, -2, -1, 0, 1, 2, 3, Integer.MAX_VALUE};
        int[] due = {BAD, BAD, 3, 2, 3, 4, BAD, BAD};
        for (int k = 0; k < asked.length; k++) {
            Due.be("toPut " + asked[k], x.toPut(asked[k]), due[k]);
        }
        HillBoxes none = new HillBoxes();
        Due.be("no BOXES: how many", none.toPut(-1), 0);
        Due.be("no BOXES: the first", none.toPut(0), BAD);
        Due.be("no BOXES: putAll", none.putAll(), 0);
    }

    /** "by call they are PUT DOWN TODAY"; "All of these are PUT DOWN: how many". */
    private static void putAllOfThese() {
        HillBoxes x = four();
        Due.be("without a RULE", x.putAll(), 0);
        Desk.rule(x, "kind > 2", 3, 0);
        x.days(2);
        Due.be("two", x.putAll(), 2);
        int[] due = {-1, -1, 2, 2};
        for (int i = 0; i < 4; i++) {
            Due.be("BOX " + (1 + i), x.ofBody(1 + i, 4), due[i]);
        }
        Due.be("lying", x.count(2), 2);
        Due.be("lies nowhere from that DAY on", x.liesAt(3, 2, 0), NOT);
        Due.be("lay ahead of it", x.liesAt(3, 1, 23), 6);
    }

    /** "(not PUT DOWN)": those PUT DOWN ahead stay PUT DOWN on their DAY. */
    private static void putDownTheyAreNoneOfThese() {
        HillBoxes x = four();
        x.down(1);
        x.days(1);
        Desk.rule(x, "1", 3, 0);
        Due.be("to be PUT DOWN", x.toPut(-1), 3);
        Due.be("the first of them", x.toPut(0), 2);
        Due.be("putAll", x.putAll(), 3);
        Due.be("PUT DOWN ahead", x.ofBody(1, 4), 0);
        Due.be("PUT DOWN by all", x.ofBody(2, 4), 1);
        Due.be("again", x.putAll(), 0);
        Due.be("none is left", x.toPut(-1), 0);
    }
}
