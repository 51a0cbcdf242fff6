import java.util.ArrayList;
import java.util.List;

/** A desk to which something of every sort was told, and a look at all that it knows. */
final class Village {
    static final int LEFT = 2, THING = 3, BODY = 4, OF_ONE_WHO_LEFT = 5, RIDDLE = 6, MANY = 7, WANDERING = 8, NIGHT = 9,
        PUT_DOWN = 10, NONE = 11;
    static final int LOGS = 9, TODAY = 2, MIDNIGHT = 24 * TODAY;
    private static final int BYTES = 1, BODY_SHELF = 2, LONGS = 3, BOOLEANS = 4;

    private Village() {
    }

    static void tell(HillBoxes x) {
        x.days(TODAY);
        x.finder(0);
        x.finder(59);
        x.finder(5);
        x.body(6);
        x.body(0);
        boxes(x);
        logs(x);
        x.move(WANDERING, 51, 4);
        Desk.paper(x, RIDDLE, 1, 0, 99);
        Desk.riddle(x, RIDDLE, 0, 0, 1, 7, 0, 4, 0, 0, 0, 0, 5, 1, 0, 0, 0);
        x.down(PUT_DOWN);
        x.leaves(LEFT);
        x.asks(0, OF_ONE_WHO_LEFT);
        x.tell(THING, 0, 0);
        x.tell(THING, 1, 1);
        x.owner(33, 4);
        x.lookAt(WANDERING, 1);
        Desk.rule(x, "not mine", 2, 0);
        Desk.rule(x, "if home < 9 : 1; unless mine : 0; 2", 4, 1);
        x.wish(OF_ONE_WHO_LEFT, 3, 0);
        x.walk(24 * 22, 48);
        x.wish(RIDDLE, 5, 1);
        x.wish(WANDERING, 9, 2);
        shelves(x);
        x.act(NIGHT, 3, 7);
        Desk.feed(x, "1 +");
        x.step(35);
    }

    private static void boxes(HillBoxes x) {
        x.hide(LEFT, 1, 11);
        x.hide(0, 2, 22);
        x.step(37);
        x.step(39);
        x.hide(0, 3, 30);
        x.hide(0, 4, 50);
        x.hide(1, 5, 9);
        x.hide(1, 1, 54);
    }

    private static void logs(HillBoxes x) {
        x.log(0, OF_ONE_WHO_LEFT, MIDNIGHT + 2, 1);
        x.log(0, RIDDLE, MIDNIGHT + 3, 1);
        x.log(1, RIDDLE, MIDNIGHT + 4, 1);
        x.log(1, NIGHT, MIDNIGHT + 12, 1);
        x.log(1, WANDERING, MIDNIGHT + 2, 0);
        x.log(1, OF_ONE_WHO_LEFT, MIDNIGHT + 12, 0);
        x.log(1, OF_ONE_WHO_LEFT, MIDNIGHT + 13, 0);
        x.log(1, OF_ONE_WHO_LEFT, MIDNIGHT + 14, 0);
        x.log(1, MANY, MIDNIGHT + 5, 1);
    }

    private static void shelves(HillBoxes x) {
        Desk.row(x, BYTES, 0, 3, 0, 9, 4, 0);
        x.keep(BODY_SHELF, MANY);
        Desk.row(x, LONGS, 3, 7, -8, 9);
        Desk.row(x, BOOLEANS, 4, 1, 0, 1);
        x.keep(5, -1);
    }

    /** All that can be asked; what answers by telling something comes last. */
    static long[] seen(HillBoxes x) {
        List<Long> all = new ArrayList<>();
        int bodies = x.count(0);
        for (int what = 0; what <= 10; what++) {
            add(all, x.count(what));
        }
        for (int b = 0; b < bodies && b <= NONE; b++) {
            for (int what = 0; what <= 7; what++) {
                add(all, x.ofBody(b, what));
            }
            ofBox(x, b, all);
        }
        ofLogsAndRules(x, all);
        ofWalksAndShelves(x, all);
        byTelling(x, all);
        return all.stream().mapToLong(Long::longValue).toArray();
    }

    private static void add(List<Long> all, long... answers) {
        for (long answer : answers) {
            all.add(answer);
        }
    }

    private static void ofBox(HillBoxes x, int b, List<Long> all) {
        if (x.first(b) != HillBoxes.BAD) {
            add(all, x.first(b), x.gone(b, 0), x.gone(b, 1), x.join(b, 0, -1), x.join(b, 1, 0), x.join(b, 2, 0));
            add(all, x.taker(b), x.liesAt(b, TODAY, 3), x.liesAt(b, TODAY, 23));
        }
    }

    private static void ofLogsAndRules(HillBoxes x, List<Long> all) {
        for (int log = 0; log < LOGS + 1; log++) {
            add(all, x.isFalse(log, 0), x.isFalse(log, 1));
        }
        add(all, x.chance(0), x.chance(1), x.jump(THING, -1), x.jump(THING, 1), x.chain(THING));
        add(all, x.inForce(0, 0, 999), x.inForce(2, 0, 999), x.inForce(4, 999, 999), x.inForce(14, 999, 999));
        add(all, x.says(0, -1, -1, 0), x.says(1, 0, 1, 0), x.says(3, -1, MANY, 0), x.says(4, 1, MANY, 1));
        add(all, x.nearest(0, 1), x.nearest(1, 1), x.why(0, 1, 37, 1), x.why(0, 1, 33, 0), x.toPut(-1), x.toPut(0));
        add(all, x.solve(RIDDLE, -1), x.solve(RIDDLE, 1), x.solved(RIDDLE, 0), x.others(RIDDLE, 0), x.solve(NIGHT, -1));
        add(all, x.rank(0, TODAY, -1, 0), x.rank(1, TODAY, 0, 0), x.rank(0, TODAY, -1, 1));
    }

    private static void ofWalksAndShelves(HillBoxes x, List<Long> all) {
        add(all, x.walked(-1), x.walked(0), x.walked(1), x.judge(0, 48, 1), x.judge(0, 48, 21), x.judge(0, 48, 3));
        add(all, x.nobody(0), x.nobody(1), x.nobody(2), x.nobody(3));
        for (int i = 0; i < 4; i++) {
            add(all, x.trace(i), x.element(0, i), x.element(BYTES, i), x.element(LONGS, i), x.element(BOOLEANS, i));
            add(all, x.element(5, i));
        }
        for (int shelf = 0; shelf < 6; shelf++) {
            add(all, x.taken(shelf, 0));
        }
    }

    private static void byTelling(HillBoxes x, List<Long> all) {
        add(all, x.owner(33, -1), x.owner(0, -1), x.owner(59, -1));
        add(all, x.step(14), x.hide(0, 3, 57), x.count(9), x.why(0, 1, 35, 1), x.why(0, 1, 14, 1));
        add(all, x.feed(1, '2'), x.rule(0, 0), x.says(0, -1, -1, 0));
        add(all, x.walk(24 * 22, 48), x.walked(-1), x.walked(0), x.take(OF_ONE_WHO_LEFT), x.putAll());
        add(all, x.move(WANDERING, 0, 5), x.liesAt(WANDERING, TODAY, 5), x.tell(THING, 0, 0), x.log(0, NIGHT, 0, 0));
        add(all, x.asks(1, OF_ONE_WHO_LEFT), x.days(1));
    }
}
