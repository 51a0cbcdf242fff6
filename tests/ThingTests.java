/** Promises 30 to 37: things that travel, keepers that left, what is to be put down. */
final class ThingTests {
    public static void main(String[] args) {
        tell();
        tellWhenFull();
        jump();
        chain();
        chainNowhere();
        asks();
        asksWhenFull();
        taker();
        takerByHide();
        takerOfMovedAndMany();
        take();
        toPut();
        putAll();
        Due.end("ThingTests");
    }

    /** FINDERS 0 and 1, BOXES 2 (at 0) and 3 (at 59), THINGS 4 and 5. */
    private static HillBoxes ground() {
        HillBoxes x = new HillBoxes();
        x.finder(0);
        x.finder(59);
        x.hide(0, 1, 0);
        x.hide(1, 1, 59);
        x.body(6);
        x.body(6);
        return x;
    }

    private static void tell() {
        HillBoxes x = ground();
        Due.be("no LOG", x.tell(4, 0, 0), HillBoxes.BAD);
        x.log(0, 2, 0, 1);
        x.log(0, 2, 1, 0);
        Due.be("LOG -1", x.tell(4, -1, 0), HillBoxes.BAD);
        Due.be("LOG 2", x.tell(4, 2, 0), HillBoxes.BAD);
        Due.be("a LOG not found", x.tell(4, 1, 0), HillBoxes.BAD);
        Due.be("left 2", x.tell(4, 0, 2), HillBoxes.BAD);
        Due.be("left -1", x.tell(4, 0, -1), HillBoxes.BAD);
        Due.be("a BOX", x.tell(2, 0, 0), HillBoxes.BAD);
        Due.be("none", x.tell(6, 0, 0), HillBoxes.BAD);
        Due.be("not seen since", x.ofBody(4, 1), -1);
        Due.be("taken", x.tell(4, 0, 0), 1);
        Due.be("with the FINDER", x.ofBody(4, 1), 0);
        Due.be("left", x.tell(4, 0, 1), 2);
        Due.be("in the BOX", x.ofBody(4, 1), 2);
        Due.be("tellings", x.ofBody(4, 2), 2);
        Due.be("of the other", x.ofBody(5, 2), 0);
    }

    private static void tellWhenFull() {
        HillBoxes x = ground();
        x.log(0, 2, 0, 1);
        for (int i = 1; i <= 12; i++) {
            Due.be("telling " + i, x.tell(4, 0, i % 2), i);
        }
        Due.be("telling 13", x.tell(4, 0, 0), HillBoxes.FULL);
        Due.be("bad ahead of FULL", x.tell(4, 1, 0), HillBoxes.BAD);
        Due.be("of the other", x.tell(5, 0, 0), 1);
        Due.be("jumps", x.jump(4, -1), 1);
        Due.be("chain of one place", x.chain(4), 0);
        Due.be("where it is", x.ofBody(4, 1), 0);
    }

    private static long[] jumps(HillBoxes x, int thing) {
        int n = x.jump(thing, -1);
        long[] all = new long[n + 2];
        all[0] = n;
        for (int i = 0; i <= n; i++) {
            all[i + 1] = x.jump(thing, i);
        }
        return all;
    }

    private static void jump() {
        HillBoxes x = ground();
        x.log(0, 2, 0, 1);
        x.log(1, 3, 1, 1);
        x.log(0, 3, 20, 1);
        Due.row("no tellings", jumps(x, 4), 0, -1);
        x.tell(4, 0, 0);
        Due.row("the first is one", jumps(x, 4), 1, 0, -1);
        x.tell(4, 2, 1);
        Due.row("left by the one who had it", jumps(x, 4), 1, 0, -1);
        x.tell(4, 1, 0);
        Due.row("taken where it was", jumps(x, 4), 1, 0, -1);
        x.tell(4, 2, 1);
        Due.row("left by one who did not have it", jumps(x, 4), 2, 0, 3, -1);
        x.tell(4, 0, 0);
        Due.row("taken where it was not", jumps(x, 4), 3, 0, 3, 4, -1);
        x.tell(4, 0, 0);
        Due.row("taken twice", jumps(x, 4), 4, 0, 3, 4, 5, -1);
        x.tell(4, 0, 1);
        x.tell(4, 0, 1);
        Due.row("left twice", jumps(x, 4), 5, 0, 3, 4, 5, 7, -1);
        x.tell(5, 0, 1);
        Due.row("left first", jumps(x, 5), 1, 0, -1);
        Due.be("i -2", x.jump(4, -2), HillBoxes.BAD);
        Due.be("i MAX", x.jump(4, Integer.MAX_VALUE), HillBoxes.BAD);
        Due.be("a BOX", x.jump(2, -1), HillBoxes.BAD);
        Due.be("none", x.jump(6, -1), HillBoxes.BAD);
    }

    private static void chain() {
        HillBoxes x = ground();
        x.hide(0, 4, 30);
        x.log(0, 2, 0, 1);
        x.log(0, 3, 1, 1);
        x.log(0, 6, 2, 1);
        x.move(6, 35, 3);
        x.log(0, 6, 4, 1);
        x.move(6, 55, 5);
        Due.be("none left", x.chain(4), 0);
        x.tell(4, 0, 1);
        Due.be("one left", x.chain(4), 0);
        x.tell(4, 1, 0);
        Due.be("taken elsewhere", x.chain(4), 0);
        x.tell(4, 1, 1);
        Due.be("from 0 to 59", x.chain(4), 14);
        x.tell(4, 2, 1);
        Due.be("and to 30", x.chain(4), 14 + 11);
        x.tell(4, 3, 1);
        Due.be("and to 35, as it lay then", x.chain(4), 14 + 11 + 5);
        x.tell(4, 0, 1);
        Due.be("and to 0", x.chain(4), 14 + 11 + 5 + 8);
        Due.be("a BOX", x.chain(2), HillBoxes.BAD);
        Due.be("a FINDER", x.chain(0), HillBoxes.BAD);
        Due.be("none", x.chain(7), HillBoxes.BAD);
        x.step(55);
        x.step(9);
        x.hide(0, 3, 51);
        x.log(0, 7, 6, 1);
        x.tell(5, 0, 1);
        x.tell(5, 4, 1);
        Due.be("to where a MANY lies", x.chain(5), 9);
    }

    private static void chainNowhere() {
        HillBoxes x = ground();
        x.days(1);
        x.hide(0, 1, 30);
        x.log(0, 2, 0, 1);
        x.log(0, 6, 5, 1);
        x.log(0, 3, 6, 1);
        x.tell(4, 0, 1);
        x.tell(4, 1, 1);
        x.tell(4, 2, 1);
        Due.be("0 where one lay nowhere, and from there", x.chain(4), 0);
        x.tell(4, 0, 1);
        Due.be("back", x.chain(4), 14);
        x.days(1);
        x.log(0, 3, 60, 1);
        x.tell(4, 3, 1);
        Due.be("again", x.chain(4), 28);
        x.down(3);
        Due.be("put down on that DAY", x.chain(4), 14);
    }

    private static void asks() {
        HillBoxes x = ground();
        x.finder(5);
        Due.be("the KEEPER is there", x.asks(1, 2), HillBoxes.NOT);
        x.leaves(0);
        Due.be("no finder", x.asks(7, 2), HillBoxes.BAD);
        Due.be("a box asks", x.asks(3, 2), HillBoxes.BAD);
        Due.be("no box", x.asks(1, 7), HillBoxes.BAD);
        Due.be("for a thing", x.asks(1, 4), HillBoxes.BAD);
        Due.be("one that left", x.asks(0, 2), HillBoxes.BAD);
        Due.be("one that left, for one that is kept", x.asks(0, 3), HillBoxes.BAD);
        Due.be("asks", x.asks(1, 2), 1);
        Due.be("asks again", x.asks(1, 2), HillBoxes.BAD);
        Due.be("another asks", x.asks(6, 2), 2);
        Due.be("for another one that is kept", x.asks(6, 3), HillBoxes.NOT);
        x.leaves(1);
        Due.be("one that asked and left", x.asks(1, 2), HillBoxes.BAD);
        x.finder(6);
        Due.be("all that asked", x.asks(7, 2), 3);
    }

    private static void asksWhenFull() {
        HillBoxes x = ground();
        x.leaves(0);
        for (int i = 0; i < 8; i++) {
            x.finder(10 + i);
            Due.be("asks " + i, x.asks(6 + i, 2), i + 1);
        }
        Due.be("the 9th", x.asks(1, 2), HillBoxes.FULL);
        Due.be("asked, ahead of FULL", x.asks(6, 2), HillBoxes.BAD);
        x.finder(0);
        Due.be("a 9th that is nearer", x.asks(14, 2), HillBoxes.FULL);
        Due.be("the nearest of 8", x.taker(2), 6);
        x.take(2);
        Due.be("all are none then", x.asks(1, 2), HillBoxes.NOT);
        x.leaves(6);
        Due.be("the first of the next", x.asks(1, 2), 1);
    }

    private static void taker() {
        HillBoxes x = new HillBoxes();
        x.finder(0);
        x.finder(32);
        x.finder(30);
        x.finder(33);
        x.finder(11);
        x.hide(0, 1, 31);
        x.leaves(0);
        Due.be("nobody asked", x.taker(5), HillBoxes.NOT);
        Due.be("a finder", x.taker(0), HillBoxes.BAD);
        Due.be("none", x.taker(6), HillBoxes.BAD);
        x.asks(3, 5);
        Due.be("one", x.taker(5), 3);
        x.asks(4, 5);
        Due.be("of like ones the least", x.taker(5), 3);
        x.asks(2, 5);
        Due.be("the nearest", x.taker(5), 2);
        x.asks(1, 5);
        Due.be("of like ones the least, told last", x.taker(5), 1);
        x.leaves(1);
        Due.be("one that left", x.taker(5), 2);
        x.leaves(2);
        x.leaves(3);
        x.leaves(4);
        Due.be("all left", x.taker(5), HillBoxes.NOT);
    }

    private static void takerByHide() {
        HillBoxes x = new HillBoxes();
        x.days(1);
        x.finder(0);
        x.finder(32);
        x.finder(35);
        x.hide(0, 2, 31);
        x.log(1, 3, 30, 1);
        Desk.paper(x, 3, 1, 2);
        x.leaves(0);
        x.asks(1, 3);
        x.asks(2, 3);
        x.days(1);
        Due.be("by FAR", x.taker(3), 1);
        Desk.rule(x, "kind = 2 and home = 4 and since = 1 and day = 2 and own = 0", 1, 0);
        Due.be("by HIDE", x.taker(3), 2);
        Desk.rule(x, "kind = 2 and home = 1", 1, 0);
        Due.be("by HIDE for the other", x.taker(3), 1);
        Desk.rule(x, "finds or misses or age or paper or mine or hour", 1, 0);
        Due.be("it is asked for a KIND, not for this BOX", x.taker(3), HillBoxes.NOT);
        Due.be("take", x.take(3), HillBoxes.NOT);
        Due.be("the KEEPER stays", x.ofBody(3, 1), 0);
    }

    private static void takerOfMovedAndMany() {
        HillBoxes x = new HillBoxes();
        x.finder(0);
        x.finder(9);
        x.finder(50);
        x.hide(0, 4, 8);
        x.step(53);
        x.step(51);
        x.hide(0, 3, 7);
        x.leaves(0);
        x.move(3, 59, 4);
        x.asks(1, 3);
        x.asks(2, 3);
        x.asks(1, 4);
        x.asks(2, 4);
        x.move(3, 40, 5);
        Due.be("where it was moved", x.taker(3), 2);
        Due.be("where the MANY lies", x.taker(4), 2);
        Desk.rule(x, "home > 1", 1, 0);
        Due.be("home to where it lies", x.taker(4), 1);
        x.down(4);
        Due.be("one that is put down", x.taker(4), 1);
    }

    private static void take() {
        HillBoxes x = ground();
        Due.be("a finder", x.take(0), HillBoxes.BAD);
        Due.be("none", x.take(6), HillBoxes.BAD);
        Due.be("nobody asked", x.take(2), HillBoxes.NOT);
        x.finder(5);
        x.leaves(0);
        x.asks(6, 2);
        x.asks(1, 2);
        Due.be("take", x.take(2), 6);
        Due.be("KEEPER", x.ofBody(2, 1), 6);
        Due.be("own of the new one", x.ofBody(6, 4), 1);
        Due.be("own of the old one", x.ofBody(0, 4), 0);
        Due.be("the asking is none", x.taker(2), HillBoxes.NOT);
        Due.be("the KEEPER is there", x.asks(1, 2), HillBoxes.NOT);
        x.leaves(6);
        Due.be("asked anew", x.asks(1, 2), 1);
        Due.be("taken anew", x.take(2), 1);

        HillBoxes y = new HillBoxes();
        y.body(6);
        Due.be("a THING 0", y.ofBody(0, 2), 0);
        Due.be("jumps of THING 0", y.jump(0, -1), 0);
        HillBoxes z = new HillBoxes();
        z.finder(0);
        z.finder(0);
        z.hide(1, 1, 30);
        z.leaves(1);
        z.asks(0, 2);
        Due.be("FINDER 0 may take it over", z.taker(2), 0);
        z.finder(30);
        z.asks(3, 2);
        z.leaves(3);
        Due.be("FINDER 0 takes it over", z.take(2), 0);
        Due.be("FINDER 0 is the KEEPER", z.ofBody(2, 1), 0);
        Due.be("nobody asks then", z.taker(2), HillBoxes.NOT);
    }

    /** A FINDER 0, BOXES 1 (BOX), 2 (RIDDLE), 3 (NIGHT), 4 (BOX). */
    private static HillBoxes fourBoxes() {
        HillBoxes x = new HillBoxes();
        x.finder(0);
        x.hide(0, 1, 0);
        x.hide(0, 2, 9);
        x.days(3);
        x.hide(0, 5, 50);
        x.hide(0, 1, 59);
        return x;
    }

    private static long[] toPut(HillBoxes x) {
        int n = x.toPut(-1);
        long[] all = new long[n + 2];
        all[0] = n;
        for (int i = 0; i <= n; i++) {
            all[i + 1] = x.toPut(i);
        }
        return all;
    }

    private static void toPut() {
        HillBoxes x = fourBoxes();
        Due.row("without a rule", toPut(x), 0, -1);
        Desk.rule(x, "age = 3 or kind = 5", 3, 4);
        Due.row("for a later DAY", toPut(x), 0, -1);
        Desk.rule(x, "age = 3 or kind = 5", 3, 3);
        Due.row("by age and kind", toPut(x), 3, 1, 2, 3, -1);
        x.down(2);
        Due.row("not put down", toPut(x), 2, 1, 3, -1);
        Desk.rule(x, "kind - 5", 3, 0);
        Due.row("not 0 is yes", toPut(x), 2, 1, 4, -1);
        x.log(0, 4, 0, 1);
        x.log(0, 4, 1, 0);
        Desk.rule(x, "finds and misses", 3, 0);
        Due.row("by its LOGS", toPut(x), 1, 4, -1);
        Desk.rule(x, "own or since or home or mine or hour", 3, 0);
        Due.row("by no FINDER", toPut(x), 0, -1);
        Due.be("i -2", x.toPut(-2), HillBoxes.BAD);
        Due.be("i MAX", x.toPut(Integer.MAX_VALUE), HillBoxes.BAD);
    }

    private static void putAll() {
        HillBoxes x = fourBoxes();
        Due.be("none", x.putAll(), 0);
        Desk.rule(x, "age = 3 or kind = 5", 3, 0);
        Due.be("three", x.putAll(), 3);
        long[] on = new long[4];
        for (int i = 0; i < 4; i++) {
            on[i] = x.ofBody(1 + i, 4);
        }
        Due.row("put down on", on, 3, 3, 3, -1);
        Due.be("none left", x.putAll(), 0);
        Due.be("not to put", x.toPut(-1), 0);
        Due.be("lying", x.count(2), 1);
        x.days(3);
        Due.be("the last", x.putAll(), 1);
        Due.be("put down later", x.ofBody(4, 4), 6);
        Due.be("put down first", x.ofBody(1, 4), 3);
    }
}
