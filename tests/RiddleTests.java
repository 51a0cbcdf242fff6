/** Promises 19 to 22: TELLINGS of riddles, their SOLUTIONS, and OTHERS. */
final class RiddleTests {
    private static final int SUM = 0, PRODUCT = 1, DIFFERENCE = 2, ITSELF = 3, X = 4, Y = 5, NONE = 6;

    public static void main(String[] args) {
        riddleRefused();
        riddlePlaces();
        fives();
        numbersOfFives();
        solveByHand();
        eachSort();
        lettersTold();
        lastTellingOfX();
        orderOfSolutions();
        notTold();
        bounds();
        withoutLetters();
        others();
        manySolutions();
        Due.end("RiddleTests");
    }

    /** FINDERS 0 and 1, a RIDDLE 2 at 12, a BOX 3, a NIGHT one 4. */
    private static HillBoxes ground() {
        HillBoxes x = new HillBoxes();
        x.finder(0);
        x.finder(59);
        x.hide(0, 2, 12);
        x.hide(1, 1, 50);
        x.hide(1, 5, 9);
        return x;
    }

    private static void riddleRefused() {
        HillBoxes x = ground();
        x.row(0, 0, 10);
        Due.be("a BOX", x.riddle(3, 0, 0, 1), HillBoxes.BAD);
        Due.be("a FINDER", x.riddle(0, 0, 0, 1), HillBoxes.BAD);
        Due.be("none", x.riddle(5, 0, 0, 1), HillBoxes.BAD);
        Due.be("SHELF 6", x.riddle(2, 6, 0, 1), HillBoxes.BAD);
        Due.be("SHELF -1", x.riddle(2, -1, 0, 1), HillBoxes.BAD);
        Due.be("n 0", x.riddle(2, 0, 0, 0), HillBoxes.BAD);
        Due.be("n 9", x.riddle(2, 0, 0, 9), HillBoxes.BAD);
        Due.be("n MIN", x.riddle(2, 0, 0, Integer.MIN_VALUE), HillBoxes.BAD);
        for (int sort = 1; sort <= 4; sort++) {
            x.row(1, sort, 10);
            Due.be("a ROW of sort " + sort, x.riddle(2, 1, 0, 1), -12);
        }
        x.keep(1, 2);
        Due.be("a BODY on the SHELF", x.riddle(2, 1, -1, 1), -12);
        Due.be("a bad n ahead of it", x.riddle(2, 1, 0, 0), HillBoxes.BAD);
        x.keep(1, -1);
        Due.be("nothing on the SHELF", x.riddle(2, 1, 0, 8), 0);
        Due.be("NIGHT", x.riddle(4, 0, 0, 8), 2);
    }

    private static void riddlePlaces() {
        HillBoxes x = ground();
        Desk.row(x, 0, 0, 9, X, NONE, 0, 3, 0, Y, NONE, 0, 2, 0, ITSELF, 0, 0, 5);
        Due.be("from 1 on, 3", x.riddle(2, 0, 1, 3), 2);
        Due.be("as told", x.solved(2, 0), 23);
        x.row(1, 2, 5);
        Due.be("refused", x.riddle(2, 1, 1, 3), -12);
        Due.be("what is refused changes nothing", x.solved(2, 0), 23);
        Due.be("from 1 on, 1", x.riddle(2, 0, 1, 1), 1);
        Due.be("y is not told then", x.solved(2, 0), HillBoxes.NOT);
        Due.be("from 0 on", x.riddle(2, 0, 0, 3), 0);
        x.riddle(2, 0, 1, 2);
        Due.be("below 0", x.riddle(2, 0, -4, 3), 0);
        Due.be("it took the place", x.solve(2, -1), HillBoxes.NOT);
        x.riddle(2, 0, 1, 2);
        Due.be("MIN", x.riddle(2, 0, Integer.MIN_VALUE, 8), 0);
        Due.be("behind the end", x.riddle(2, 0, 16, 1), 0);
        Due.be("MAX", x.riddle(2, 0, Integer.MAX_VALUE, 8), 0);
        Due.be("MAX - 5", x.riddle(2, 0, Integer.MAX_VALUE - 5, 8), 0);
        Due.be("a five that is not whole", x.riddle(2, 0, 11, 1), 0);
        x.riddle(2, 0, 1, 2);
        Due.be("a missing row", x.riddle(2, 4, 0, 1), 0);
        Due.be("it took the place, too", x.solve(2, -1), HillBoxes.NOT);
    }

    /** How many fives are told of one five and a good one behind it. */
    private static int told(int... five) {
        HillBoxes x = ground();
        int[] both = {five[0], five[1], five[2], five[3], five[4], ITSELF, 0, 0, 0, 0};
        return Desk.riddle(x, 2, both);
    }

    private static void fives() {
        Due.be("sort -1", told(-1, 0, 0, 0, 0), 0);
        Due.be("sort 6", told(6, 0, 0, 0, 0), 0);
        for (int sort = 0; sort <= 5; sort++) {
            int most = sort >= X ? 6 : 5;
            Due.be("good " + sort, told(sort, 0, 0, 0, 0), 2);
            Due.be("first letter -1 of " + sort, told(sort, -1, 0, 0, 0), 0);
            Due.be("first letter most of " + sort, told(sort, most, 0, 0, 0), 2);
            Due.be("first letter above of " + sort, told(sort, most + 1, 0, 0, 0), 0);
            Due.be("last byte 1 of " + sort, told(sort, 0, 0, 0, 1), 0);
            Due.be("last byte -1 of " + sort, told(sort, 0, 0, 0, -1), 0);
            boolean any = sort >= ITSELF;
            Due.be("second letter 5 of " + sort, told(sort, 0, 5, 0, 0), 2);
            Due.be("second letter 6 of " + sort, told(sort, 0, 6, 0, 0), any ? 2 : 0);
            Due.be("second letter -1 of " + sort, told(sort, 0, -1, 0, 0), any ? 2 : 0);
            Due.be("second letter 127 of " + sort, told(sort, 0, 127, 0, 0), any ? 2 : 0);
        }
    }

    private static void numbersOfFives() {
        int[] least = {0, 0, -9, 0, 0, 0};
        int[] most = {18, 81, 9, 9, 9, 9};
        for (int sort = 0; sort <= 5; sort++) {
            Due.be("least of " + sort, told(sort, 0, 1, least[sort], 0), 2);
            Due.be("below of " + sort, told(sort, 0, 1, least[sort] - 1, 0), 0);
            Due.be("most of " + sort, told(sort, 0, 1, most[sort], 0), 2);
            Due.be("above of " + sort, told(sort, 0, 1, most[sort] + 1, 0), 0);
        }
        Due.be("x is 9", told(X, NONE, 0, 9, 0), 2);
        Due.be("x is 10", told(X, NONE, 0, 10, 0), 0);
        Due.be("y is -1", told(Y, NONE, 0, -1, 0), 0);
        Due.be("y is 9", told(Y, NONE, 0, 9, 0), 2);
        HillBoxes x = ground();
        Due.be("it ends there", Desk.riddle(x, 2, X, 0, 0, 0, 0, 7, 0, 0, 0, 0, Y, 0, 0, 0, 0), 1);
        Due.be("eight fives", Desk.riddle(x, 2, new int[40]), 8);
    }

    private static void solveByHand() {
        HillBoxes x = ground();
        Due.be("told", Desk.riddle(x, 2, SUM, 0, 1, 7, 0, X, 0, 0, 1, 0, Y, 1, 0, 0, 0, PRODUCT, 2, 0, 12, 0), 4);
        // A + B = 7, A * C = 12: (2, 5, 6), (3, 4, 4) is not unlike, (4, 3, 3) neither, (6, 1, 2)
        Due.be("how many", x.solve(2, -1), 2);
        Due.be("the first", x.solve(2, 0), 256);
        Due.be("the second", x.solve(2, 1), 612);
        Due.be("the third", x.solve(2, 2), HillBoxes.BAD);
        Due.be("the first CELL", x.solved(2, 0), 51);
        Due.be("the second CELL", x.solved(2, 1), 15);
        Due.be("the third CELL", x.solved(2, 2), HillBoxes.BAD);
        Due.be("i -2", x.solve(2, -2), HillBoxes.BAD);
        Due.be("CELL of -1", x.solved(2, -1), HillBoxes.BAD);
        Due.be("i MAX", x.solve(2, Integer.MAX_VALUE), HillBoxes.BAD);
        Due.be("CELL of MAX", x.solved(2, Integer.MAX_VALUE), HillBoxes.BAD);
        Due.be("of a BOX", x.solve(3, -1), HillBoxes.BAD);
        Due.be("CELL of a BOX", x.solved(3, 0), HillBoxes.BAD);
        Due.be("of none", x.solve(-1, -1), HillBoxes.BAD);
        Due.be("CELL of none", x.solved(9, 0), HillBoxes.BAD);
        Due.be("others", x.others(2, 0), 1L << 51 | 1L << 15);
    }

    /** SOLUTIONS of TELLINGS: the answers to -1, 0, 1 and so on. */
    private static long[] solutions(int... fives) {
        HillBoxes x = ground();
        Desk.riddle(x, 2, fives);
        int n = x.solve(2, -1);
        long[] all = new long[Math.max(0, n) + 1];
        all[0] = n;
        for (int i = 0; i < n; i++) {
            all[i + 1] = x.solve(2, i);
        }
        return all;
    }

    private static void eachSort() {
        Due.row("A is 4", solutions(ITSELF, 0, 9, 4, 0, X, 0, 0, 0, 0, Y, 0, 0, 0, 0), 1, 4);
        Due.row("A + A = 6", solutions(SUM, 0, 0, 6, 0, X, 0, 0, 0, 0, Y, 0, 0, 0, 0), 1, 3);
        Due.row("A + A = 5", solutions(SUM, 0, 0, 5, 0, X, 0, 0, 0, 0, Y, 0, 0, 0, 0), 0);
        Due.row("A * A = 25", solutions(PRODUCT, 0, 0, 25, 0, X, 0, 0, 0, 0, Y, 0, 0, 0, 0), 1, 5);
        Due.row("A - A = 0, A < 2", solutions(DIFFERENCE, 0, 0, 0, 0, X, 0, 0, 8, 0, Y, NONE, 0, 0, 0), 2, 8, 9);
        Due.row("A - A = 1", solutions(DIFFERENCE, 0, 0, 1, 0, X, 0, 0, 0, 0, Y, NONE, 0, 0, 0), 0);
        Due.row("B - A = -8", solutions(DIFFERENCE, 1, 0, -8, 0, X, 0, 0, 0, 0, Y, 1, 0, 0, 0), 2, 80, 91);
        Due.row("A - B = 9", solutions(DIFFERENCE, 0, 1, 9, 0, X, NONE, 0, 0, 0, Y, 1, 0, 0, 0), 1, 90);
        Due.row("A + B = 17", solutions(SUM, 0, 1, 17, 0, X, 0, 0, 0, 0, Y, NONE, 0, 5, 0), 2, 89, 98);
        Due.row("A * B = 0, B is 0", solutions(PRODUCT, 0, 1, 0, 0, ITSELF, 1, 0, 0, 0, X, 0, 0, 7, 0, Y, 1, 0, 0, 0),
            3, 70, 80, 90);
        Due.row("A is 1, B is 1", solutions(ITSELF, 0, 0, 1, 0, ITSELF, 1, 0, 1, 0, X, 0, 0, 0, 0, Y, 1, 0, 0, 0), 0);
        Due.row("A is 1, A is 2", solutions(ITSELF, 0, 0, 1, 0, ITSELF, 0, 0, 2, 0, X, 0, 0, 0, 0, Y, 0, 0, 0, 0), 0);
    }

    private static void lettersTold() {
        // the second letter of these is any, and no letter told
        Due.row("second of ITSELF", solutions(ITSELF, 0, 4, 3, 0, X, 0, 5, 0, 0, Y, 0, 2, 0, 0), 1, 3);
        Due.row("letters C and F", solutions(ITSELF, 5, 0, 1, 0, ITSELF, 2, 0, 7, 0, X, 2, 0, 0, 0, Y, 5, 0, 0, 0), 1, 71);
        Due.row("all letters", solutions(ITSELF, 5, 0, 1, 0, ITSELF, 2, 0, 7, 0, ITSELF, 0, 0, 0, 0, ITSELF, 1, 0, 5, 0,
            ITSELF, 3, 0, 9, 0, ITSELF, 4, 0, 8, 0, X, 2, 0, 0, 0, Y, 5, 0, 0, 0), 1, 57981);
        Due.row("second of a DIFFERENCE", solutions(DIFFERENCE, 0, 1, 7, 0, X, 0, 0, 0, 0, Y, NONE, 0, 0, 0), 3, 70, 81, 92);
        Due.row("second of a SUM", solutions(SUM, 0, 1, 1, 0, X, 0, 0, 0, 0, Y, NONE, 0, 0, 0), 2, 1, 10);
        Due.row("second of a PRODUCT", solutions(PRODUCT, 0, 1, 35, 0, X, 0, 0, 0, 0, Y, NONE, 0, 0, 0), 2, 57, 75);
        Due.row("letters of x and y alone", solutions(X, 3, 0, 8, 0, Y, 0, 0, 9, 0), 1, 98);
    }

    private static void lastTellingOfX() {
        Due.row("the last x and y count", solutions(X, 0, 0, 9, 0, Y, NONE, 0, 9, 0, ITSELF, 0, 0, 4, 0, X, 0, 0, 3, 0,
            Y, 0, 0, 2, 0), 1, 4);
        HillBoxes x = ground();
        Desk.riddle(x, 2, X, 0, 0, 9, 0, ITSELF, 0, 0, 4, 0, X, 0, 0, 3, 0, Y, NONE, 0, 2, 0);
        Due.be("its CELL", x.solved(2, 0), 21);
        Desk.riddle(x, 2, Y, 0, 0, 9, 0, Y, 0, 0, 0, 0, ITSELF, 0, 0, 4, 0, X, NONE, 0, 3, 0);
        Due.be("CELL by the last y", x.solved(2, 0), 43);
        // A is told with an x that counts no more: it stays told, and takes any digit that is left
        Due.row("a letter told so", solutions(X, 0, 0, 0, 0, ITSELF, 1, 0, 5, 0, X, 1, 0, 0, 0, Y, NONE, 0, 0, 0),
            9, 5, 15, 25, 35, 45, 65, 75, 85, 95);
    }

    private static void orderOfSolutions() {
        Due.row("A + B = 3", solutions(SUM, 1, 0, 3, 0, X, 1, 0, 0, 0, Y, NONE, 0, 0, 0), 4, 3, 12, 21, 30);
        HillBoxes x = ground();
        Desk.riddle(x, 2, SUM, 1, 0, 3, 0, X, 1, 0, 0, 0, Y, 0, 0, 0, 0);
        long[] cells = new long[5];
        for (int i = 0; i < 5; i++) {
            cells[i] = x.solved(2, i);
        }
        Due.row("their CELLS", cells, 3, 12, 21, 30, HillBoxes.BAD);
        Due.be("others, less the one where it is", x.others(2, 0), 1L << 3 | 1L << 21 | 1L << 30);
    }

    private static void notTold() {
        HillBoxes x = ground();
        Due.be("at first", x.solve(2, -1), HillBoxes.NOT);
        Due.be("at first, the 0th", x.solve(2, 0), HillBoxes.NOT);
        Due.be("at first, CELL", x.solved(2, 0), HillBoxes.NOT);
        Due.be("at first, a late one", x.solve(2, 999999), HillBoxes.NOT);
        Due.be("at first, -2", x.solve(2, -2), HillBoxes.BAD);
        Due.be("at first, CELL of -1", x.solved(2, -1), HillBoxes.BAD);
        Due.be("at first, others", x.others(2, 0), Long.MAX_VALUE);
        Desk.riddle(x, 2, X, 0, 0, 0, 0);
        Due.be("x alone", x.solve(2, -1), HillBoxes.NOT);
        Desk.riddle(x, 2, Y, 0, 0, 0, 0);
        Due.be("y alone", x.solved(2, 0), HillBoxes.NOT);
        Due.be("others of y alone", x.others(2, 0), Long.MAX_VALUE);
        Desk.riddle(x, 2, Y, NONE, 0, 0, 0, X, NONE, 0, 0, 0);
        Due.be("both", x.solve(2, -1), 1);
    }

    private static void bounds() {
        Due.row("x is 0 .. 9", solutions(X, 0, 0, 0, 0, Y, NONE, 0, 0, 0), 10, 0, 1, 2, 3, 4, 5, 6, 7, 8, 9);
        Due.row("x is not below 0", solutions(X, 0, 0, 7, 0, Y, NONE, 0, 5, 0), 3, 7, 8, 9);
        Due.row("y is 0 .. 5", solutions(X, NONE, 0, 0, 0, Y, 0, 0, 0, 0), 6, 0, 1, 2, 3, 4, 5);
        Due.row("y is not below 0", solutions(X, NONE, 0, 9, 0, Y, 0, 0, 3, 0), 6, 3, 4, 5, 6, 7, 8);
        Due.row("y is 6", solutions(X, NONE, 0, 9, 0, Y, NONE, 0, 6, 0), 0);
        Due.row("y is 5", solutions(X, 0, 0, 9, 0, Y, NONE, 0, 5, 0), 1, 9);
    }

    private static void withoutLetters() {
        HillBoxes x = ground();
        Desk.riddle(x, 2, X, NONE, 0, 3, 0, Y, NONE, 0, 2, 0);
        Due.be("one way", x.solve(2, -1), 1);
        Due.be("without digits", x.solve(2, 0), 0);
        Due.be("its CELL", x.solved(2, 0), 23);
        Due.be("no other way", x.solve(2, 1), HillBoxes.BAD);
        Due.be("others", x.others(2, 0), 1L << 23);
        Desk.riddle(x, 2, X, NONE, 0, 2, 0, Y, NONE, 0, 1, 0);
        Due.be("no others", x.others(2, 0), 0);
    }

    private static void others() {
        HillBoxes x = ground();
        Desk.riddle(x, 2, X, 0, 0, 0, 0, Y, NONE, 0, 1, 0);
        Due.be("to its KEEPER", x.others(2, 0), fromTenToNineteenLess12());
        Due.be("to another", x.others(2, 1), Long.MAX_VALUE);
        Due.be("to a BOX", x.others(2, 3), Long.MIN_VALUE);
        Due.be("to none", x.others(2, -1), Long.MIN_VALUE);
        Due.be("of a BOX", x.others(3, 1), Long.MIN_VALUE);
        Due.be("of a FINDER", x.others(0, 0), Long.MIN_VALUE);
        Due.be("of none", x.others(5, 0), Long.MIN_VALUE);
        Due.be("of a NIGHT one, not told", x.others(4, 1), Long.MAX_VALUE);
        Desk.riddle(x, 4, X, NONE, 0, 9, 0, Y, 5, 0, 0, 0);
        Due.be("of a NIGHT one", x.others(4, 1), 1L << 19 | 1L << 29 | 1L << 39 | 1L << 49 | 1L << 59);
        x.leaves(0);
        x.asks(1, 2);
        x.take(2);
        Due.be("to the new KEEPER", x.others(2, 1), fromTenToNineteenLess12());
        Due.be("to the old KEEPER", x.others(2, 0), Long.MAX_VALUE);
    }

    private static long fromTenToNineteenLess12() {
        long bits = 0;
        for (int cell = 10; cell < 20; cell++) {
            bits |= cell == 12 ? 0 : 1L << cell;
        }
        return bits;
    }

    private static void manySolutions() {
        HillBoxes x = ground();
        // six letters told, x and y by two of them
        Desk.riddle(x, 2, X, 2, 0, 0, 0, X, 3, 0, 0, 0, X, 4, 0, 0, 0, X, 5, 0, 0, 0, X, 0, 0, 0, 0, Y, 1, 0, 0, 0);
        Due.be("how many", x.solve(2, -1), 6 * 9 * 8 * 7 * 6 * 5);
        Due.be("the first", x.solve(2, 0), 12345);
        Due.be("the last", x.solve(2, 6 * 9 * 8 * 7 * 6 * 5 - 1), 958764);
        Due.be("the last CELL", x.solved(2, 6 * 9 * 8 * 7 * 6 * 5 - 1), 59);
        Due.be("one more", x.solve(2, 6 * 9 * 8 * 7 * 6 * 5), HillBoxes.BAD);
        long bits = 0;
        for (int cell = 0; cell < 60; cell++) {
            bits |= cell / 10 == cell % 10 || cell == 12 ? 0 : 1L << cell;
        }
        Due.be("others", x.others(2, 0), bits & ~(1L << 12));
    }
}
