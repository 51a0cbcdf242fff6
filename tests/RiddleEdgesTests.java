/** Section 4 of the document, a sentence a test: where letters, TELLINGS, SOLUTIONS and OTHERS begin and end. */
final class RiddleEdgesTests {
    private static final int BAD = HillBoxes.BAD, NOT = HillBoxes.NOT, OTHER = -12;
    private static final int SUM = 0, PRODUCT = 1, DIFFERENCE = 2, ITSELF = 3, X = 4, Y = 5, NO_LETTER = 6;
    private static final int A = 0, B = 1, C = 2, D = 3, E = 4, F = 5;

    public static void main(String[] args) {
        riddlesAreOfTwoKinds();
        tellingsAre1To8();
        sortsAre0To5();
        firstLetters();
        secondLetters();
        numbersOfSums();
        numbersOfProducts();
        numbersOfDifferences();
        numbersOfLetters();
        numbersOfXAndY();
        theLastByteIs0();
        itEndsWhereTheRowIsMissing();
        itEndsWhereTheRowEnds();
        aFiveThatIsNotWhole();
        oneThatIsNotSoEndsIt();
        aPlaceBelow0();
        theyTakeThePlaceOfWhatWas();
        aRowOfOtherSorts();
        bothLettersMayBeOne();
        xAndYToldOnceAtLeast();
        theLastCounts();
        aLetterOfOneThatCountsNoMore();
        notOfAnyIThatMayBeAsked();
        lettersStandForUnlikeDigits();
        oneToSixLetters();
        noLetters();
        xIs0To9();
        yIs0To5();
        theIthOfThem();
        inOrderOfTheirDigits();
        noSolution();
        cellIsTenYAndX();
        othersAreNotWhereItIs();
        othersAreToldToTheKeeperAlone();
        Due.end("RiddleEdgesTests");
    }

    /** FINDERS 0 and 1, a RIDDLE 2 at 12 kept by 0, a NIGHT one 3 at 9 kept by 1. */
    private static HillBoxes ground() {
        HillBoxes x = new HillBoxes();
        x.finder(0);
        x.finder(59);
        x.hide(0, 2, 12);
        x.hide(1, 5, 9);
        return x;
    }

    private static int told(int... fives) {
        return Desk.riddle(ground(), 2, fives);
    }

    /** How many SOLUTIONS these have, and each of them. */
    private static long[] solutions(int... fives) {
        HillBoxes x = ground();
        Desk.riddle(x, 2, fives);
        int n = x.solve(2, -1);
        long[] all = new long[Math.max(n, 0) + 1];
        all[0] = n;
        for (int i = 0; i < n; i++) {
            all[i + 1] = x.solve(2, i);
        }
        return all;
    }

    // ---- rows of fives

    /** "TELLINGS of a RIDDLE (NIGHT too)". */
    private static void riddlesAreOfTwoKinds() {
        HillBoxes x = new HillBoxes();
        x.finder(0);
        x.row(0, 0, 5);
        for (int kind = 1; kind <= 5; kind++) {
            x.step(55);
            x.hide(0, kind, 3 * kind);
            boolean good = kind == 2 || kind == 5;
            Due.be("riddle of KIND " + kind, x.riddle(kind, 0, 0, 1), good ? 1 : BAD);
            Due.be("solve of KIND " + kind, x.solve(kind, -1), good ? NOT : BAD);
            Due.be("solved of KIND " + kind, x.solved(kind, 0), good ? NOT : BAD);
            Due.be("others of KIND " + kind, x.others(kind, 0), good ? Long.MAX_VALUE : Long.MIN_VALUE);
        }
    }

    /** "TELLINGS (1 to 8)": "n (1 .. 8) fives". */
    private static void tellingsAre1To8() {
        for (int n = -1; n <= 10; n++) {
            HillBoxes x = ground();
            x.row(0, 0, 60);
            Due.be(n + " fives", x.riddle(2, 0, 0, n), n >= 1 && n <= 8 ? n : BAD);
        }
        // the 8th holds as the first ones do
        int[] eight = {X, A, 0, 0, 0, Y, B, 0, 0, 0, ITSELF, C, 0, 5, 0, ITSELF, C, 0, 5, 0, ITSELF, C, 0, 5, 0, ITSELF, C, 0,
            5, 0, ITSELF, A, 0, 3, 0, ITSELF, B, 0, 4, 0};
        Due.row("eight TELLINGS", solutions(eight), 1, 345);
        HillBoxes x = ground();
        Desk.row(x, 0, 0, eight);
        x.riddle(2, 0, 0, 7);
        Due.be("seven of them", x.solve(2, -1), 4);
    }

    /** "sort 0 sum, 1 product, 2 difference, 3 itself, 4 x, 5 y". */
    private static void sortsAre0To5() {
        for (int sort = -1; sort <= 6; sort++) {
            Due.be("sort " + sort, told(sort, A, B, 0, 0), sort >= 0 && sort <= 5 ? 1 : 0);
        }
        Due.be("sort 127", told(127, A, B, 0, 0), 0);
        Due.be("sort -128", told(-128, A, B, 0, 0), 0);
    }

    /** "first letter (0 .. 5; of x, y: 6 none)". */
    private static void firstLetters() {
        for (int sort = 0; sort <= 5; sort++) {
            for (int letter = -1; letter <= 7; letter++) {
                boolean good = letter >= 0 && (letter <= 5 || sort >= X && letter == NO_LETTER);
                Due.be("first letter " + letter + " of sort " + sort, told(sort, letter, A, 0, 0), good ? 1 : 0);
            }
        }
    }

    /** "second letter (0 .. 5; of 3, 4, 5 any)". */
    private static void secondLetters() {
        int[] letters = {-128, -1, 0, 5, 6, 127};
        for (int sort = 0; sort <= 5; sort++) {
            for (int letter : letters) {
                boolean good = sort >= ITSELF || letter >= 0 && letter <= 5;
                Due.be("second letter " + letter + " of sort " + sort, told(sort, A, letter, 0, 0), good ? 1 : 0);
            }
        }
        Due.row("any letter is not told by it", solutions(ITSELF, A, F, 4, 0, X, A, B, 0, 0, Y, A, C, 0, 0), 1, 4);
    }

    private static void numbers(int sort, int least, int most) {
        int[] numbers = {-128, least - 1, least, most, most + 1, 127};
        for (int number : numbers) {
            Due.be("number " + number + " of sort " + sort, told(sort, A, B, number, 0),
                number >= least && number <= most ? 1 : 0);
        }
    }

    /** "N is 0 .. 18 of L + L". */
    private static void numbersOfSums() {
        numbers(SUM, 0, 18);
        Due.row("A + A = 18", solutions(SUM, A, A, 18, 0, X, A, 0, 0, 0, Y, NO_LETTER, 0, 0, 0), 1, 9);
        Due.row("A + A = 0", solutions(SUM, A, A, 0, 0, X, A, 0, 0, 0, Y, NO_LETTER, 0, 0, 0), 1, 0);
        Due.row("A + B = 18", solutions(SUM, A, B, 18, 0, X, A, 0, 0, 0, Y, NO_LETTER, 0, 0, 0), 0);
        Due.row("A + B = 0", solutions(SUM, A, B, 0, 0, X, A, 0, 0, 0, Y, NO_LETTER, 0, 0, 0), 0);
    }

    /** "0 .. 81 of L * L". */
    private static void numbersOfProducts() {
        numbers(PRODUCT, 0, 81);
        Due.row("A * A = 81", solutions(PRODUCT, A, A, 81, 0, X, A, 0, 0, 0, Y, NO_LETTER, 0, 0, 0), 1, 9);
        Due.row("A * A = 0", solutions(PRODUCT, A, A, 0, 0, X, A, 0, 0, 0, Y, NO_LETTER, 0, 0, 0), 1, 0);
        Due.row("A * B = 81", solutions(PRODUCT, A, B, 81, 0, X, A, 0, 0, 0, Y, NO_LETTER, 0, 0, 0), 0);
        Due.row("A * B = 72", solutions(PRODUCT, A, B, 72, 0, X, A, 0, 0, 0, Y, NO_LETTER, 0, 0, 0), 2, 89, 98);
    }

    /** "-9 .. 9 of L - L": "first less second is N". */
    private static void numbersOfDifferences() {
        numbers(DIFFERENCE, -9, 9);
        Due.row("A - B = 9", solutions(DIFFERENCE, A, B, 9, 0, X, A, 0, 0, 0, Y, NO_LETTER, 0, 0, 0), 1, 90);
        Due.row("A - B = -9", solutions(DIFFERENCE, A, B, -9, 0, X, A, 0, 0, 0, Y, NO_LETTER, 0, 0, 0), 1, 9);
        Due.row("A - B = 0", solutions(DIFFERENCE, A, B, 0, 0, X, A, 0, 0, 0, Y, NO_LETTER, 0, 0, 0), 0);
        Due.row("B - A = 9", solutions(DIFFERENCE, B, A, 9, 0, X, A, 0, 0, 0, Y, NO_LETTER, 0, 0, 0), 1, 9);
    }

    /** "0 .. 9 of L". */
    private static void numbersOfLetters() {
        numbers(ITSELF, 0, 9);
        for (int n = 0; n <= 9; n++) {
            Due.row("A = " + n, solutions(ITSELF, A, 0, n, 0, X, A, 0, 0, 0, Y, NO_LETTER, 0, 0, 0), 1, n);
        }
    }

    /** "x, y: less 0 .. 9; 6 with a number 0 .. 9". */
    private static void numbersOfXAndY() {
        for (int sort = X; sort <= Y; sort++) {
            numbers(sort, 0, 9);
            for (int number : new int[] {-1, 0, 9, 10}) {
                Due.be("a number " + number + " of sort " + sort, told(sort, NO_LETTER, 0, number, 0),
                    number >= 0 && number <= 9 ? 1 : 0);
            }
        }
        HillBoxes x = ground();
        Desk.riddle(x, 2, X, A, 0, 9, 0, Y, NO_LETTER, 0, 0, 0);
        Due.be("x is A less 9", x.solve(2, -1), 1);
        Due.be("A is 9", x.solve(2, 0), 9);
        Due.be("its CELL", x.solved(2, 0), 0);
        Desk.riddle(x, 2, X, NO_LETTER, 0, 9, 0, Y, NO_LETTER, 0, 5, 0);
        Due.be("x is 9, y is 5", x.solved(2, 0), 59);
        Desk.riddle(x, 2, X, NO_LETTER, 0, 0, 0, Y, NO_LETTER, 0, 0, 0);
        Due.be("x is 0, y is 0", x.solved(2, 0), 0);
    }

    /** "one that is not so (its last byte not 0, too) ends it". */
    private static void theLastByteIs0() {
        for (int last : new int[] {-128, -1, 0, 1, 127}) {
            Due.be("last byte " + last, told(ITSELF, A, 0, 0, last), last == 0 ? 1 : 0);
        }
    }

    // ---- where it ends

    /** "It ends where the row is missing": "a SHELF that holds nothing is missing". */
    private static void itEndsWhereTheRowIsMissing() {
        HillBoxes x = ground();
        for (int shelf = -1; shelf <= 6; shelf++) {
            boolean good = shelf >= 0 && shelf <= 5;
            Due.be("from SHELF " + shelf, x.riddle(2, shelf, 0, 1), good ? 0 : BAD);
        }
        x.row(0, 0, 5);
        x.keep(0, -1);
        Due.be("a ROW that is gone", x.riddle(2, 0, 0, 1), 0);
    }

    /** "or ends": the last five that is whole is told. */
    private static void itEndsWhereTheRowEnds() {
        for (int size = 0; size <= 60; size++) {
            HillBoxes x = ground();
            x.row(0, 0, size);
            Due.be("a ROW of " + size, x.riddle(2, 0, 0, 8), Math.min(8, size / 5));
            Due.be("from 3 on in a ROW of " + size, x.riddle(2, 0, 3, 8), Math.min(8, Math.max(0, size - 3) / 5));
        }
        HillBoxes x = ground();
        x.row(0, 0, 60);
        for (int i : new int[] {55, 56, 59, 60, 61, Integer.MAX_VALUE - 4, Integer.MAX_VALUE}) {
            Due.be("from " + i + " on", x.riddle(2, 0, i, 8), i <= 55 ? 1 : 0);
        }
    }

    /** "a five that is not whole is not told". */
    private static void aFiveThatIsNotWhole() {
        HillBoxes x = ground();
        Desk.row(x, 0, 0, X, NO_LETTER, 0, 3, 0, Y, NO_LETTER, 0, 2);
        Due.be("4 bytes of a five", x.riddle(2, 0, 0, 2), 1);
        Due.be("y is not told", x.solve(2, -1), NOT);
        Desk.row(x, 0, 0, X, NO_LETTER, 0, 3, 0, Y, NO_LETTER, 0, 2, 0);
        Due.be("5 bytes of it", x.riddle(2, 0, 0, 2), 2);
        Due.be("y is told", x.solved(2, 0), 23);
    }

    /** "one that is not so .. ends it": those behind it are not told. */
    private static void oneThatIsNotSoEndsIt() {
        int[] good = {X, NO_LETTER, 0, 3, 0, Y, NO_LETTER, 0, 2, 0, ITSELF, A, 0, 7, 0};
        for (int bad = 0; bad < 3; bad++) {
            int[] fives = good.clone();
            fives[5 * bad + 4] = 1;
            HillBoxes x = ground();
            Due.be("the five " + bad + " is not so", Desk.riddle(x, 2, fives), bad);
            Due.be("x and y are told", x.solve(2, 0), bad == 2 ? 0 : NOT);
        }
    }

    /** "riddle(), paper(): a place below 0: 0 come". */
    private static void aPlaceBelow0() {
        for (int i : new int[] {-1, -5, -40, Integer.MIN_VALUE}) {
            HillBoxes x = ground();
            Desk.riddle(x, 2, X, NO_LETTER, 0, 3, 0, Y, NO_LETTER, 0, 2, 0);
            Due.be("from " + i + " on", x.riddle(2, 5, i, 8), 0);
            Due.be("none is told then", x.solve(2, -1), NOT);
            Due.be("BAD goes first", x.riddle(2, 5, i, 0), BAD);
            Due.be("0 come from a missing row, too", x.riddle(2, 4, i, 8), 0);
        }
    }

    /** "they take the place of what was". */
    private static void theyTakeThePlaceOfWhatWas() {
        HillBoxes x = ground();
        Desk.riddle(x, 2, X, A, 0, 0, 0, Y, B, 0, 0, 0, SUM, A, B, 7, 0);
        Due.be("what was", x.solve(2, -1), 6);
        Desk.riddle(x, 2, X, C, 0, 0, 0, Y, NO_LETTER, 0, 2, 0);
        Due.be("letters and sums are others", x.solve(2, -1), 10);
        Due.be("C alone is told", x.solve(2, 9), 9);
        Desk.riddle(x, 2, X, C, 0, 0, 0);
        Due.be("y is told no more", x.solve(2, -1), NOT);
        Desk.riddle(x, 2, Y, C, 0, 0, 0);
        Due.be("x is told no more", x.solve(2, -1), NOT);
        Desk.riddle(x, 3, X, NO_LETTER, 0, 1, 0, Y, NO_LETTER, 0, 1, 0);
        Due.be("of another one", x.solve(2, -1), NOT);
        Due.be("that one's own", x.solved(3, 0), 11);
        x.riddle(3, 4, 0, 1);
        Due.be("none take the place, too", x.solve(3, -1), NOT);
    }

    /** "BAD, -12 (no ROW of bytes ..)". */
    private static void aRowOfOtherSorts() {
        for (int sort = 0; sort <= 4; sort++) {
            HillBoxes x = ground();
            x.row(0, sort, 5);
            Due.be("from a ROW of sort " + sort, x.riddle(2, 0, 0, 1), sort == 0 ? 1 : OTHER);
            Due.be("BAD goes first", x.riddle(2, 0, 0, 9), BAD);
        }
        for (int body = 0; body < 4; body++) {
            HillBoxes x = ground();
            x.keep(0, body);
            Due.be("from a BODY", x.riddle(2, 0, 0, 1), OTHER);
        }
    }

    // ---- what TELLINGS mean

    /** "both letters may be one". */
    private static void bothLettersMayBeOne() {
        Due.row("C + C = 8", solutions(SUM, C, C, 8, 0, X, C, 0, 0, 0, Y, NO_LETTER, 0, 0, 0), 1, 4);
        Due.row("C * C = 49", solutions(PRODUCT, C, C, 49, 0, X, C, 0, 0, 0, Y, NO_LETTER, 0, 0, 0), 1, 7);
        Due.row("C * C = 50", solutions(PRODUCT, C, C, 50, 0, X, C, 0, 0, 0, Y, NO_LETTER, 0, 0, 0), 0);
        Due.row("C - C = 0", solutions(DIFFERENCE, C, C, 0, 0, X, C, 0, 0, 0, Y, NO_LETTER, 0, 0, 0),
            10, 0, 1, 2, 3, 4, 5, 6, 7, 8, 9);
        Due.row("C - C = 1", solutions(DIFFERENCE, C, C, 1, 0, X, C, 0, 0, 0, Y, NO_LETTER, 0, 0, 0), 0);
    }

    /** "each of x, y told once at least". */
    private static void xAndYToldOnceAtLeast() {
        Due.row("neither", solutions(ITSELF, A, 0, 3, 0), NOT);
        Due.row("x alone", solutions(X, A, 0, 0, 0), NOT);
        Due.row("y alone", solutions(Y, A, 0, 0, 0), NOT);
        Due.row("both", solutions(X, A, 0, 0, 0, Y, A, 0, 4, 0), 6, 4, 5, 6, 7, 8, 9);
    }

    /** "the last counts". */
    private static void theLastCounts() {
        HillBoxes x = ground();
        Desk.riddle(x, 2, X, NO_LETTER, 0, 9, 0, Y, NO_LETTER, 0, 5, 0, X, NO_LETTER, 0, 1, 0, Y, NO_LETTER, 0, 2, 0,
            X, NO_LETTER, 0, 3, 0);
        Due.be("the third x, the second y", x.solved(2, 0), 23);
        // an x that could not be, and counts no more, hinders nothing
        Desk.riddle(x, 2, ITSELF, A, 0, 1, 0, X, A, 0, 5, 0, Y, NO_LETTER, 0, 9, 0, X, A, 0, 1, 0, Y, A, 0, 0, 0);
        Due.be("those that count", x.solve(2, -1), 1);
        Due.be("their CELL", x.solved(2, 0), 10);
    }

    /** "a letter that was told with an x or y that counts no more stays told". */
    private static void aLetterOfOneThatCountsNoMore() {
        Due.row("B of an x", solutions(X, B, 0, 0, 0, ITSELF, A, 0, 9, 0, X, A, 0, 0, 0, Y, NO_LETTER, 0, 0, 0),
            9, 90, 91, 92, 93, 94, 95, 96, 97, 98);
        Due.row("B of a y", solutions(Y, B, 0, 9, 0, ITSELF, A, 0, 0, 0, Y, A, 0, 0, 0, X, NO_LETTER, 0, 0, 0),
            9, 1, 2, 3, 4, 5, 6, 7, 8, 9);
    }

    /** "An x or y that isn't told: NOT of any i that may be asked". */
    private static void notOfAnyIThatMayBeAsked() {
        HillBoxes x = ground();
        for (int i : new int[] {-1, 0, 1, 1000000, Integer.MAX_VALUE}) {
            Due.be("solve " + i, x.solve(2, i), NOT);
            Due.be("solved " + i, x.solved(2, i), i < 0 ? BAD : NOT);
        }
        for (int i : new int[] {-2, Integer.MIN_VALUE}) {
            Due.be("solve " + i, x.solve(2, i), BAD);
            Due.be("solved " + i, x.solved(2, i), BAD);
        }
    }

    /** "letters A .. F (1 to 6 of them) stand for unlike digits 0 .. 9". */
    private static void lettersStandForUnlikeDigits() {
        Due.row("A = 3, B = 3", solutions(ITSELF, A, 0, 3, 0, ITSELF, B, 0, 3, 0, X, A, 0, 0, 0, Y, B, 0, 0, 0), 0);
        Due.row("A + B = 2", solutions(SUM, A, B, 2, 0, X, A, 0, 0, 0, Y, B, 0, 0, 0), 2, 2, 20);
        HillBoxes x = ground();
        Desk.riddle(x, 2, X, A, 0, 0, 0, Y, B, 0, 0, 0);
        Due.be("x and y are unlike", x.solve(2, -1), 6 * 9);
        Due.be("the first", x.solve(2, 0), 1);
        Due.be("the second", x.solve(2, 1), 2);
        Due.be("the last", x.solve(2, 53), 95);
        Due.be("one more", x.solve(2, 54), BAD);
    }

    /** "(1 to 6 of them)": one letter, and all six. */
    private static void oneToSixLetters() {
        for (int letter = A; letter <= F; letter++) {
            Due.row("letter " + letter + " alone", solutions(ITSELF, letter, 0, 5, 0, X, letter, 0, 0, 0,
                Y, letter, 0, 0, 0), 1, 5);
        }
        Due.row("all six", solutions(SUM, A, B, 17, 0, SUM, C, D, 1, 0, DIFFERENCE, E, F, 5, 0, DIFFERENCE, A, B, 1, 0,
            DIFFERENCE, C, D, 1, 0, PRODUCT, E, F, 14, 0, X, E, 0, 0, 0, Y, F, 0, 0, 0), 1, 981072);
        Due.row("the highest may be 0", solutions(SUM, A, B, 9, 0, ITSELF, A, 0, 0, 0, X, B, 0, 0, 0, Y, A, 0, 0, 0), 1, 9);
    }

    /** Without a letter there is one way, without digits. */
    private static void noLetters() {
        HillBoxes x = ground();
        Desk.riddle(x, 2, X, NO_LETTER, 0, 9, 0, Y, NO_LETTER, 0, 5, 0);
        Due.be("how many", x.solve(2, -1), 1);
        Due.be("the only one", x.solve(2, 0), 0);
        Due.be("one more", x.solve(2, 1), BAD);
        Desk.riddle(x, 2, X, NO_LETTER, 0, 9, 0, Y, NO_LETTER, 0, 6, 0);
        Due.be("y is 6", x.solve(2, -1), 0);
        Due.be("none of them", x.solve(2, 0), BAD);
        Due.be("no CELL", x.solved(2, 0), BAD);
    }

    /** "x is 0 .. 9". */
    private static void xIs0To9() {
        for (int less = 0; less <= 9; less++) {
            HillBoxes x = ground();
            Desk.riddle(x, 2, X, A, 0, less, 0, Y, NO_LETTER, 0, 0, 0);
            Due.be("x is A less " + less, x.solve(2, -1), 10 - less);
            Due.be("the first", x.solve(2, 0), less);
            Due.be("its CELL", x.solved(2, 0), 0);
            Due.be("the last CELL", x.solved(2, 9 - less), 9 - less);
            Due.be("one more", x.solved(2, 10 - less), BAD);
        }
    }

    /** "y 0 .. 5". */
    private static void yIs0To5() {
        for (int less = 0; less <= 9; less++) {
            HillBoxes x = ground();
            Desk.riddle(x, 2, Y, A, 0, less, 0, X, NO_LETTER, 0, 0, 0);
            int n = Math.min(6, 10 - less);
            Due.be("y is A less " + less, x.solve(2, -1), n);
            Due.be("the first", x.solve(2, 0), less);
            Due.be("its CELL", x.solved(2, 0), 0);
            Due.be("the last CELL", x.solved(2, n - 1), 10 * (n - 1));
            Due.be("one more", x.solved(2, n), BAD);
        }
        for (int number = 0; number <= 9; number++) {
            HillBoxes x = ground();
            Desk.riddle(x, 2, Y, NO_LETTER, 0, number, 0, X, NO_LETTER, 0, 0, 0);
            Due.be("y is " + number, x.solve(2, -1), number <= 5 ? 1 : 0);
        }
    }

    // ---- SOLUTIONS and OTHERS

    /** "how many (i -1), the i-th. BAD (also none such)". */
    private static void theIthOfThem() {
        HillBoxes x = ground();
        Desk.riddle(x, 2, SUM, A, B, 5, 0, X, A, 0, 0, 0, Y, B, 0, 0, 0);
        int[] asked = {Integer.MIN_VALUE, -2, -1, 0, 5, 6, Integer.MAX_VALUE};
        int[] solve = {BAD, BAD, 6, 5, 50, BAD, BAD};
        int[] solved = {BAD, BAD, BAD, 50, 5, BAD, BAD};
        for (int k = 0; k < asked.length; k++) {
            Due.be("solve " + asked[k], x.solve(2, asked[k]), solve[k]);
            Due.be("solved " + asked[k], x.solved(2, asked[k]), solved[k]);
        }
    }

    /** "(as digits of the letters in order, the first is the highest), in order of these". */
    private static void inOrderOfTheirDigits() {
        Due.row("told from the last letter on", solutions(SUM, F, C, 3, 0, X, F, 0, 0, 0, Y, C, 0, 0, 0), 4, 3, 12, 21, 30);
        Due.row("three of them", solutions(SUM, D, B, 1, 0, SUM, B, A, 1, 0, X, A, 0, 0, 0, Y, D, 0, 0, 0), 0);
        Due.row("by A, then B, then C", solutions(SUM, C, B, 3, 0, SUM, A, B, 4, 0, X, A, 0, 0, 0, Y, B, 0, 0, 0),
            3, 130, 312, 403);
    }

    /** "all ways .. by which all TELLINGS hold": none at all is an answer, too. */
    private static void noSolution() {
        HillBoxes x = ground();
        Desk.riddle(x, 2, ITSELF, A, 0, 1, 0, ITSELF, A, 0, 2, 0, X, A, 0, 0, 0, Y, A, 0, 0, 0);
        Due.be("how many", x.solve(2, -1), 0);
        Due.be("the first", x.solve(2, 0), BAD);
        Due.be("its CELL", x.solved(2, 0), BAD);
        Due.be("others", x.others(2, 0), 0);
    }

    /** "Its CELL: 10 y and x". */
    private static void cellIsTenYAndX() {
        for (int y = 0; y <= 5; y++) {
            for (int x = 0; x <= 9; x++) {
                HillBoxes h = ground();
                Desk.riddle(h, 2, X, NO_LETTER, 0, x, 0, Y, NO_LETTER, 0, y, 0);
                Due.be("x " + x + ", y " + y, h.solved(2, 0), 10 * y + x);
                Due.be("as a bit", h.others(2, 0), 10 * y + x == 12 ? 0 : 1L << 10 * y + x);
            }
        }
    }

    /** "CELLS that some SOLUTION gives and that is not where the BOX's CELL is". */
    private static void othersAreNotWhereItIs() {
        HillBoxes x = new HillBoxes();
        x.finder(0);
        x.hide(0, 2, 0);
        x.hide(0, 5, 59);
        Desk.riddle(x, 1, X, A, 0, 0, 0, Y, NO_LETTER, 0, 0, 0);
        Due.be("less CELL 0", x.others(1, 0), 0x3fe);
        Desk.riddle(x, 2, X, A, 0, 0, 0, Y, NO_LETTER, 0, 5, 0);
        Due.be("less CELL 59", x.others(2, 0), 0x1ffL << 50);
        Desk.riddle(x, 1, X, A, 0, 0, 0, Y, NO_LETTER, 0, 5, 0);
        Due.be("CELL 59 of another one", x.others(1, 0), 0x3ffL << 50);
        // two ways that give one CELL are one of OTHERS
        Desk.riddle(x, 1, SUM, A, B, 9, 0, X, NO_LETTER, 0, 3, 0, Y, NO_LETTER, 0, 0, 0);
        Due.be("ten ways", x.solve(1, -1), 10);
        Due.be("one CELL", x.others(1, 0), 8);
    }

    /** "told to the KEEPER alone .. to others NOT": "it is not the KEEPER, or x or y is not told". */
    private static void othersAreToldToTheKeeperAlone() {
        HillBoxes x = ground();
        Due.be("not told yet, to the KEEPER", x.others(2, 0), Long.MAX_VALUE);
        Due.be("not told yet, to another", x.others(2, 1), Long.MAX_VALUE);
        Desk.riddle(x, 2, X, NO_LETTER, 0, 2, 0, Y, NO_LETTER, 0, 0, 0);
        Due.be("to the KEEPER", x.others(2, 0), 4);
        Due.be("to another", x.others(2, 1), Long.MAX_VALUE);
        for (int finder : new int[] {-1, 2, 3, 4, Integer.MAX_VALUE, Integer.MIN_VALUE}) {
            Due.be("to " + finder, x.others(2, finder), Long.MIN_VALUE);
        }
        x.leaves(0);
        Due.be("to a KEEPER that LEFT", x.others(2, 0), 4);
        x.down(2);
        Due.be("of one PUT DOWN", x.others(2, 0), 4);
        x.asks(1, 2);
        x.take(2);
        Due.be("to one that was the KEEPER", x.others(2, 0), Long.MAX_VALUE);
        Due.be("to the KEEPER now", x.others(2, 1), 4);
    }
}
