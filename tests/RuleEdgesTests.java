/** Section 2 of the document, a sentence a test: where uses, days, THE TAPE, texts and names begin and end. */
final class RuleEdgesTests {
    private static final int BAD = HillBoxes.BAD, NOT = HillBoxes.NOT, FULL = HillBoxes.FULL, VOID = HillBoxes.VOID;
    private static final int NONE = -1;

    public static void main(String[] args) {
        usesAre0To4And10To19();
        daysOfRulesAre0To999();
        rulesAre0To19();
        aFaultEmptiesTheTape();
        madeOnKOrAhead();
        forDayDOrAnEarlierOne();
        theOneMadeLast();
        aheadOfTodayOrBehind();
        withoutAnyRule();
        feedOneToFourBytes();
        theTapeIsAtMost160Bytes();
        theLongestTape();
        theEmptyTape();
        blanksMayStandBetween();
        numbersOf1To5Digits();
        wordsAsManyAsStandThere();
        namesAndKeyWords();
        bytesOfNoToken();
        linesOneOrMore();
        lineWithIfOrUnless();
        eitherBothAndNot();
        oneComparison();
        sumsAndProducts();
        ones();
        endsTooEarly();
        sixMayBeOpen();
        theSeventhIsTheFault();
        closedOnesAreOpenNoMore();
        intsThatWrap();
        divisionTowardZero();
        divisionByZero();
        truthIs1Or0();
        theFirstLineThatCounts();
        linesByNumbersFrom0();
        nearIsHeldWithin0To15();
        valuesAreNotHeld();
        dayAndHour();
        sinceAndAge();
        findsAndMisses();
        ownBoxes();
        homeByTheCellNow();
        paperAndMine();
        whatThereIsNotIs0();
        kindAsAsked();
        saysOfEachUse();
        nearestIsOfThoseShown();
        nearestToItsCell();
        Due.end("RuleEdgesTests");
    }

    private static int faultOf(String text) {
        int answer = Desk.rule(new HillBoxes(), text, 0, 0);
        return answer <= -100 ? -100 - answer : answer < 0 ? answer - 1000 : NONE;
    }

    private static void faults(Object... textsAndFaults) {
        for (int i = 0; i < textsAndFaults.length; i += 2) {
            String text = (String) textsAndFaults[i];
            Due.be("FAULT of '" + text + "'", faultOf(text), (Integer) textsAndFaults[i + 1]);
        }
    }

    /** What texts of HIDE give, unheld: on DAY 7 for KIND 2, asked by a FINDER that came on DAY 4. */
    private static void gives(Object... textsAndNumbers) {
        for (int i = 0; i < textsAndNumbers.length; i += 2) {
            HillBoxes x = new HillBoxes();
            x.days(4);
            x.finder(0);
            x.days(3);
            Desk.rule(x, (String) textsAndNumbers[i], 1, 0);
            Due.be("'" + textsAndNumbers[i] + "'", x.says(1, 0, 2, 0), (Integer) textsAndNumbers[i + 1]);
        }
    }

    private static void lines(Object... textsAndLines) {
        for (int i = 0; i < textsAndLines.length; i += 2) {
            HillBoxes x = new HillBoxes();
            x.finder(0);
            Desk.rule(x, (String) textsAndLines[i], 1, 0);
            Due.be("LINE of '" + textsAndLines[i] + "'", x.says(1, 0, 2, 1), (Integer) textsAndLines[i + 1]);
        }
    }

    // ---- uses, days, rules

    /** "USES 0 .. 4"; "USE 10 and the OWNER". */
    private static void usesAre0To4And10To19() {
        for (int use = -2; use <= 21; use++) {
            boolean good = use >= 0 && use <= 4 || use >= 10 && use <= 19;
            HillBoxes x = new HillBoxes();
            Desk.feed(x, "1");
            Due.be("inForce of USE " + use, x.inForce(use, 0, 0), good ? NOT : BAD);
            Due.be("rule of USE " + use, x.rule(use, 0), good ? 0 : BAD);
            Due.be("THE TAPE behind it", x.count(7), good ? 0 : 1);
            Due.be("in force then", x.inForce(use, 0, 0), good ? 0 : BAD);
        }
    }

    /** "for DAYS from one on": 0 .. 999. */
    private static void daysOfRulesAre0To999() {
        for (int day : new int[] {Integer.MIN_VALUE, -1, 0, 999, 1000, Integer.MAX_VALUE}) {
            boolean good = day == 0 || day == 999;
            HillBoxes x = new HillBoxes();
            Desk.feed(x, "1");
            Due.be("rule for " + day, x.rule(0, day), good ? 0 : BAD);
            Due.be("RULES", x.count(6), good ? 1 : 0);
            Due.be("inForce on " + day, x.inForce(0, day, 999), good ? 0 : BAD);
            Due.be("inForce as known on " + day, x.inForce(0, 999, day), good ? 0 : BAD);
        }
        HillBoxes x = new HillBoxes();
        Desk.rule(x, "1", 0, 999);
        Due.be("for DAY 999, on 998", x.inForce(0, 998, 999), NOT);
        Due.be("for DAY 999, on 999", x.inForce(0, 999, 0), 0);
    }

    /** "its number (0 .. 19)"; "rule() is BAD, FULL, then the FAULT"; "FULL (THE TAPE stays)". */
    private static void rulesAre0To19() {
        HillBoxes x = new HillBoxes();
        for (int i = 0; i < 20; i++) {
            Due.be("rule " + i, Desk.rule(x, "" + i, i % 2 == 0 ? 0 : 10 + i / 2, 0), i);
        }
        Due.be("RULES", x.count(6), 20);
        Desk.feed(x, "1+");
        Due.be("BAD goes first", x.rule(20, 0), BAD);
        Due.be("BAD goes first, by DAY", x.rule(0, 1000), BAD);
        Due.be("FULL goes ahead of the FAULT", x.rule(0, 0), FULL);
        Due.be("THE TAPE stays", x.count(7), 2);
        Due.be("RULES still", x.count(6), 20);
        Due.be("the 19th says", x.says(0, -1, -1, 0), 15);
        Due.be("the 20th is in force", x.inForce(19, 0, 0), 19);
        HillBoxes y = new HillBoxes();
        y.finder(0);
        for (int i = 0; i < 20; i++) {
            Desk.rule(y, "1", 2, 0);
        }
        Due.be("beside the 20th", y.rank(0, 0, 19, 0), 0);
        Due.be("beside a 21st", y.rank(0, 0, 20, 0), BAD);
    }

    /** "then the FAULT, which empties THE TAPE". */
    private static void aFaultEmptiesTheTape() {
        HillBoxes x = new HillBoxes();
        Due.be("a FAULT", Desk.rule(x, "7 7", 0, 0), -102);
        Due.be("THE TAPE", x.count(7), 0);
        Due.be("RULES", x.count(6), 0);
        Due.be("none is in force", x.inForce(0, 999, 999), NOT);
        Due.be("what is fed then stands alone", Desk.rule(x, "7", 0, 0), 0);
        Due.be("it says", x.says(0, -1, -1, 0), 7);
        Due.be("a RULE empties it, too", x.count(7), 0);
    }

    /** "AS KNOWN on k: of the USE those made on k or ahead". */
    private static void madeOnKOrAhead() {
        HillBoxes x = new HillBoxes();
        x.days(5);
        Desk.rule(x, "1", 0, 0);
        Due.be("as known a DAY ahead", x.inForce(0, 9, 4), NOT);
        Due.be("as known on the DAY", x.inForce(0, 9, 5), 0);
        Due.be("as known a DAY behind", x.inForce(0, 9, 6), 0);
        x.days(1);
        Desk.rule(x, "2", 0, 0);
        Due.be("of two, as known on the DAY of the first", x.inForce(0, 9, 5), 0);
        Due.be("of two, as known on the DAY of the second", x.inForce(0, 9, 6), 1);
    }

    /** "for DAY d or an earlier one". */
    private static void forDayDOrAnEarlierOne() {
        HillBoxes x = new HillBoxes();
        Desk.rule(x, "1", 3, 5);
        Due.be("a DAY ahead", x.inForce(3, 4, 0), NOT);
        Due.be("on the DAY", x.inForce(3, 5, 0), 0);
        Due.be("a DAY behind", x.inForce(3, 6, 0), 0);
        x.finder(0);
        x.hide(0, 1, 5);
        x.days(4);
        Due.be("it says nothing on DAY 4", x.says(3, -1, 1, 0), 0);
        x.days(1);
        Due.be("it says on DAY 5", x.says(3, -1, 1, 0), 1);
    }

    /** "the one made last": not the one for the latest DAY. */
    private static void theOneMadeLast() {
        HillBoxes x = new HillBoxes();
        Desk.rule(x, "1", 0, 9);
        Desk.rule(x, "2", 0, 3);
        Due.be("both hold", x.inForce(0, 9, 0), 1);
        Due.be("one holds", x.inForce(0, 8, 0), 1);
        Desk.rule(x, "3", 0, 9);
        Due.be("three hold", x.inForce(0, 9, 0), 2);
        Due.be("of two of one DAY", x.inForce(0, 8, 0), 1);
        Desk.rule(x, "4", 1, 0);
        Due.be("one of another USE", x.inForce(0, 9, 0), 2);
    }

    /** "A RULE may be for a DAY ahead of TODAY": an earlier one, or one to come. */
    private static void aheadOfTodayOrBehind() {
        HillBoxes x = new HillBoxes();
        x.days(50);
        Due.be("for DAY 0", Desk.rule(x, "5", 0, 0), 0);
        Due.be("in force on DAY 0, as known TODAY", x.inForce(0, 0, 50), 0);
        Due.be("in force on DAY 0, as known then", x.inForce(0, 0, 0), NOT);
        Due.be("TODAY", x.says(0, -1, -1, 0), 5);
        Due.be("for DAY 999", Desk.rule(x, "6", 0, 999), 1);
        Due.be("TODAY still", x.says(0, -1, -1, 0), 5);
    }

    /** "Without any: NEAR 2, HIDE 1, COUNTS 1, DOWN 0, SHOWN 1, LEAVES 0 (without an OWNER 1)"; "-1 without a RULE". */
    private static void withoutAnyRule() {
        HillBoxes x = new HillBoxes();
        x.finder(0);
        x.hide(0, 1, 30);
        x.log(0, 1, 0, 1);
        Due.be("NEAR", x.says(0, -1, -1, 0), 2);
        Due.be("HIDE", x.says(1, 0, 1, 0), 1);
        Due.be("COUNTS", x.first(1), 0);
        Due.be("DOWN", x.says(3, -1, 1, 0), 0);
        Due.be("SHOWN", x.says(4, 0, 1, 0), 1);
        Due.be("LEAVE without an OWNER", x.why(0, 1, 0, 1), 0);
        for (int owner = 0; owner <= 9; owner++) {
            x.owner(0, owner);
            Due.be("LEAVE of OWNER " + owner, x.why(0, 1, 0, 1), 2);
        }
        Due.be("LINE of NEAR", x.says(0, -1, -1, 1), -1);
        Due.be("LINE of HIDE", x.says(1, 0, 1, 1), -1);
        Due.be("LINE of DOWN", x.says(3, -1, 1, 1), -1);
        Due.be("LINE of SHOWN", x.says(4, 0, 1, 1), -1);
        Desk.rule(x, "0", 1, 0);
        Due.be("a RULE that gives 0 is one", x.says(1, 0, 1, 1), 0);
    }

    // ---- THE TAPE

    /** "n (1 .. 4) bytes come to THE TAPE, the lowest of v first". */
    private static void feedOneToFourBytes() {
        for (int n = -1; n <= 6; n++) {
            HillBoxes x = new HillBoxes();
            Due.be("feed " + n, x.feed(n, 0x34333231), n >= 1 && n <= 4 ? n : BAD);
            Due.be("bytes then", x.count(7), n >= 1 && n <= 4 ? n : 0);
            int made = x.rule(1, 0);
            Due.be("a RULE of them", made, n >= 1 && n <= 4 ? 0 : -100);
            x.finder(0);
            Due.be("it says", x.says(1, 0, 1, 0), n >= 1 && n <= 4 ? new int[] {0, 1, 12, 123, 1234}[n] : 1);
        }
        HillBoxes x = new HillBoxes();
        Due.be("bytes above the n-th are not told", x.feed(1, 0xffffff37), 1);
        Due.be("bytes of a number below 0", x.feed(3, 0xff202020), 4);
        Due.be("a RULE of them", x.rule(0, 0), 0);
        x.feed(2, 0xff37);
        Due.be("byte 255 is one of none", x.rule(0, 0), -101);
        x.feed(4, 0xff202037);
        Due.be("the highest byte is one, too", x.rule(0, 0), -103);
    }

    /** "THE TAPE (at most 160 bytes)": "BAD, FULL". */
    private static void theTapeIsAtMost160Bytes() {
        for (int n = 1; n <= 4; n++) {
            HillBoxes x = new HillBoxes();
            Desk.feed(x, " ".repeat(160 - n));
            Due.be("one less than fits, and " + n, x.feed(n, 0x20202020), 160);
            Due.be("one more", x.feed(1, 0x31), FULL);
            Due.be("BAD goes first", x.feed(5, 0x31), BAD);
            Due.be("how many", x.count(7), 160);
            HillBoxes y = new HillBoxes();
            Desk.feed(y, " ".repeat(161 - n));
            Due.be(n + " bytes, and room for one less", y.feed(n, 0x31313131), FULL);
            Due.be("none of them came", y.count(7), 161 - n);
            Due.be("THE TAPE as it was", y.rule(0, 0), -100 - (161 - n));
        }
    }

    /** A TEXT of 160 bytes is one, to its last byte. */
    private static void theLongestTape() {
        faults(" ".repeat(159) + "1", NONE, "1" + " ".repeat(159), NONE, " ".repeat(160), 160, " ".repeat(159) + "@", 159,
            " ".repeat(158) + "1+", 160, "1" + "+1".repeat(79), NONE, "1" + "+1".repeat(79) + "+", 160,
            "0;".repeat(79) + "1", NONE, "0;".repeat(80), 160, "9".repeat(160), 0, "a".repeat(160), 0,
            "(".repeat(160), 6, "-".repeat(160), 6);
        gives("1" + "+1".repeat(79), 80, "if 0:1;".repeat(22) + "12345", 12345, " ".repeat(155) + "12345", 12345);
        lines("if 0:1;".repeat(22) + "12345", 22, "0;".repeat(79) + "1", 0);
        // as many TOKENS as bytes
        gives("-1" + "+1".repeat(79), 78, "1-" + "-1-1".repeat(39) + "-2", 1 + (1 - 1) - 38 * 2 - 2);
        HillBoxes x = new HillBoxes();
        x.finder(0);
        for (int i = 0; i < 20; i++) {
            // an object is used for 512 calls, and the longest one takes 40
            boolean isLong = i % 4 == 3;
            String text = isLong ? "-1" + "+1".repeat(77) + "+" + i % 10 + "+1" : "" + i;
            Due.be("RULE " + i, Desk.rule(x, text, 1, 0), i);
            Due.be("it gives", x.says(1, 0, 1, 0), isLong ? 77 + i % 10 : i);
        }
    }

    /** "the length, if it ends too early": of an empty one 0. */
    private static void theEmptyTape() {
        HillBoxes x = new HillBoxes();
        Due.be("rule of nothing", x.rule(0, 0), -100);
        Due.be("RULES", x.count(6), 0);
        Due.be("bytes", x.count(7), 0);
        Due.be("one byte makes one", Desk.rule(x, "1", 0, 0), 0);
        Due.be("nothing again", x.rule(0, 0), -100);
    }

    // ---- TOKENS

    /** "blanks may stand between": between TOKENS, not within one. */
    private static void blanksMayStandBetween() {
        faults("1+1", NONE, "1 + 1", NONE, "  1  +  1  ", NONE, "1 2", 2, "d ay", 0, "da y", 0, "o r", 0, "( 1 )", NONE,
            "1\t", 1, "1\n", 1, "1" + (char) 160, 1, "if1:2", NONE, "not1", NONE, "1or 0", NONE, "1or0and1", NONE);
        gives("1 2 3".replace(" ", ""), 123, "if1:2", 2, "not1", 0, "1or0and0", 1);
    }

    /** "a number (1 to 5 digits)"; "the sixth digit's number: its first digit". */
    private static void numbersOf1To5Digits() {
        faults("0", NONE, "9", NONE, "99999", NONE, "00000", NONE, "100000", 0, "000000", 0, "1234567890123", 0,
            "1 + 123456", 4, "1+12345+654321", 8, "(123456)", 1, "if 123456 : 1", 3, "-123456", 1, "12345 6", 6);
        gives("99999", 99999, "00007", 7, "00000", 0, "12345", 12345);
    }

    /** "words (letters a .. z, as many as stand there)". */
    private static void wordsAsManyAsStandThere() {
        faults("dayz", 0, "zday", 0, "dayzday", 0, "day", NONE, "days", 0, "da", 0, "dayday", 0, "dayor", 0, "day or day", NONE, "notday", 0, "Day", 0,
            "daY", 0, "day1", 3, "1day", 1, "z", 0, "a", 0, "orday", 0, "ifs 1 : 2", 0, "iff", 0, "unles 1 : 2", 0,
            "`day", 0, "day{", 3, "1 + kinds", 4, "andand", 0);
    }

    /** "a word that is no NAME and no key word". */
    private static void namesAndKeyWords() {
        String[] names = {"day", "kind", "own", "since", "age", "finds", "misses", "hour", "home", "paper", "mine"};
        for (String name : names) {
            faults(name, NONE, name + "x", 0, name.substring(1), 0, "1 + " + name, NONE, name + " " + name,
                name.length() + 1);
        }
        String[] keys = {"or", "and", "not", "if", "unless"};
        for (String key : keys) {
            boolean opens = !key.equals("or") && !key.equals("and");
            faults(key, opens ? key.length() : 0, key + "x 1", 0, "1 + " + key, 4);
        }
        faults("e", 0, "true", 0, "near", 0, "x", 0);
    }

    /** "or of a byte of none": its own place, whatever stands behind it. */
    private static void bytesOfNoToken() {
        String signs = ";:<>=+-*/%() ";
        for (int b = 0; b < 256; b++) {
            boolean isWord = b >= 'a' && b <= 'z';
            boolean isNumber = b >= '0' && b <= '9';
            if (!isWord && !isNumber && signs.indexOf(b) < 0) {
                faults("" + (char) b, 0, "1" + (char) b, 1, "1 +" + (char) b + " 1", 3, "1 1" + (char) b, 2);
            }
        }
    }

    // ---- the grammar

    /** "LINES, one or more, parted by ;". */
    private static void linesOneOrMore() {
        faults("1", NONE, "1;2", NONE, "1;2;3", NONE, ";", 0, ";1", 0, "1;", 2, "1;;2", 2, "1 ; ", 4, "(1;2)", 2,
            "1,2", 1, "1 if 1:2", 2, "1;if 1:2;unless 0:3;4", NONE);
    }

    /** "LINE: E, or unless E : E, or if E : E". */
    private static void lineWithIfOrUnless() {
        faults("if 1:2", NONE, "unless 1:2", NONE, "if 1 2", 5, "if :2", 3, "if 1:", 5, "if 1", 4, "if", 2, "1:2", 1,
            "if 1:2:3", 6, "if if 1:2:3", 3, "if 1:if 2:3", 5, "unless unless 1:2", 7, "if 1;2", 4, "(if 1:2)", 1,
            "if 1 or 0:2 or 1", NONE, "if (1:2", 5, "if 1):2", 4, "unless", 6, "unless 1", 8, "unless 1:", 9);
    }

    /** "E = A { or A }. A = B { and B }. B = not B, or S ..". */
    private static void eitherBothAndNot() {
        faults("1 or 1", NONE, "1 and 1", NONE, "or 1", 0, "and 1", 0, "1 or", 4, "1 and", 5, "1 or or 1", 5,
            "1 or and 1", 5, "1 and or 1", 6, "1 or not 1", NONE, "1 and not not 1", NONE, "1 not 1", 2,
            "not or 1", 4, "not", 3, "1 or 1 or 1 and 1 and 1", NONE);
        gives("1 or 0 and 0", 1, "(1 or 0) and 0", 0, "0 and 0 or 1", 1, "not 0 and 0", 0, "not (0 and 0)", 1,
            "not 0 or 1", 1, "not not 5", 1, "not 1 = 2", 1, "not (1 = 2) + 0", 1, "1 and 1 and 0", 0, "0 or 0 or 3", 1);
    }

    /** "S, or S < S, S = S, S > S": one comparison in a B. */
    private static void oneComparison() {
        faults("1 < 2", NONE, "1 = 2", NONE, "1 > 2", NONE, "1 < 2 < 3", 6, "1 < 2 = 3", 6, "1 = 2 > 3", 6,
            "(1 < 2) < 3", NONE, "1 < (2 < 3)", NONE, "1 <= 2", 3, "1 >= 2", 3, "1 == 2", 3, "1 <> 2", 3, "< 2", 0,
            "1 <", 3, "1 < not 2", 4, "1 < 2 and 2 < 3", NONE, "1 < 2 or 2 > 3", NONE, "1 < or", 4);
        gives("4 < 5", 1, "5 < 5", 0, "5 = 5", 1, "5 = 4", 0, "6 > 5", 1, "5 > 5", 0, "-1 < 0", 1, "0 > -1", 1,
            "1 + 1 = 2", 1, "1 + (1 = 2)", 1, "1 < 2 and 2 < 3", 1);
    }

    /** "S = P { + P, - P }. P = O { * O, / O, % O }": from the left on. */
    private static void sumsAndProducts() {
        faults("1 +", 3, "1 + * 2", 4, "* 2", 0, "+ 2", 0, "1 + + 2", 4, "1 * - 2", NONE, "1 - - 2", NONE, "1 * / 2", 4,
            "1 % % 2", 4, "1 * not 2", 4, "1 + 2 - 3 * 4 / 5 % 6", NONE, "1 -", 3, "1 %", 3);
        gives("7 - 2 - 1", 4, "7 - 2 + 1", 6, "2 + 3 * 4", 14, "2 * 3 + 4", 10, "100 / 7 / 2", 7, "100 / 7 * 2", 28,
            "17 % 5 * 2", 4, "17 * 5 % 2", 1, "7 - -2", 9, "7 - - - 2", 5, "2 * -3", -6, "-2 * -3", 6, "-7 + 3", -4,
            "-(7 + 3)", -10, "- 7 - 3", -10);
    }

    /** "O = a number, a NAME, - O, ( E )". */
    private static void ones() {
        faults("5", NONE, "day", NONE, "-5", NONE, "-day", NONE, "(5)", NONE, "(5 or 6)", NONE, "()", 1, "(", 1, ")", 0,
            "(5", 2, "5)", 1, "(5)(5)", 3, "5(5)", 1, "(5)5", 3, "day day", 4, "-", 1, "- )", 2, "- not 5", 2, "(not 5)",
            NONE, "-(not 5)", NONE, "--5", NONE, "(5;6)", 2, ":", 0, "=", 0, "%", 0, "/", 0);
    }

    /** "the length, if it ends too early": blanks at the end are of the length. */
    private static void endsTooEarly() {
        faults("1 +", 3, "1 +  ", 5, "(1", 2, "(1 ", 3, "if 1", 4, "if 1 ", 5, "if 1 :  ", 8, "not ", 4, "1 < ", 4,
            "1;  ", 4, "((1)", 4, "1 and  ", 7, "   ", 3, "- ", 2);
    }

    // ---- at most 6 open at once

    /** "At most 6 of ( not - ahead of an O are open at once". */
    private static void sixMayBeOpen() {
        faults("((((((1))))))", NONE, "------1", NONE, "not not not not not not 1", NONE, "not(-(not-1))", NONE,
            "not not not - - - 1", NONE, "(((- - -1)))", NONE, "not not not(((1)))", NONE, "(not(not(-1)))", NONE,
            "-(-(-(1)))", NONE, "not(not(not(1)))", NONE);
        gives("((((((7))))))", 7, "------7", 7, "-----7", -7, "not not not not not not 7", 1, "not(-(not-1))", 1);
    }

    /** "At most 6": the seventh of them is the TOKEN that can't stand there. */
    private static void theSeventhIsTheFault() {
        faults("(((((((1)))))))", 6, "-------1", 6, "not not not not not not not 1", 24, "((((((-1))))))", 6,
            "((((((not 1))))))", 6, "------(1)", 6, "not not not not not not -1", 24, "not not not not not not (1)", 24,
            "not not not - - - - 1", 18, "(not - (not - 1))", NONE, "(not - (not - (1)))", 14, "(not(not(--1)))", 10,
            "(((((( ( 1", 7, "(((((( 1 (", 9, "not - - - - - 1 < - - - - - - 1", 28, "1 + -------1", 10);
    }

    /** Those that are closed again count no more; a "not" is open up to the end of its B. */
    private static void closedOnesAreOpenNoMore() {
        faults("((((((1)))))) + ((((((1))))))", NONE, "------1 - ------1", NONE, "- - - - - - 1 < - - - - - - 1", NONE,
            "not not not not not not 1 and not not not not not not 1", NONE, "if ((((((1)))))) : ------1", NONE,
            "((((((1))))));((((((1))))))", NONE, "(((((1) + (1)) + (1)) + (1)) + (1))", NONE,
            "not -----1 + -----1", NONE, "not -----1 + ------1", 18, "not 1 < -----1", NONE, "not 1 < ------1", 13,
            "not 1 and ------1", NONE, "not 1 or ((((((1))))))", NONE);
    }

    // ---- what texts give

    /** "Ints that wrap". */
    private static void intsThatWrap() {
        int max = Integer.MAX_VALUE, min = Integer.MIN_VALUE;
        gives("32768 * 65536", min, "32768 * 65535 + 32767", max, "32768 * 65535 + 32768", min, "32768 * 65536 - 1", max,
            "-(32768 * 65536)", min, "65536 * 65536", 0, "99999 * 99999", 99999 * 99999, "32768 * 65536 * -1", min,
            "-(32768 * 65536) - 1", max, "32768 * 65536 < 0", 1, "32768 * 65536 = -(32768 * 65536)", 1);
    }

    /** "/ and % toward 0". */
    private static void divisionTowardZero() {
        gives("7 / 2", 3, "-7 / 2", -3, "7 / -2", -3, "-7 / -2", 3, "7 % 2", 1, "-7 % 2", -1, "7 % -2", 1, "-7 % -2", -1,
            "1 / 2", 0, "-1 / 2", 0, "-1 % 2", -1, "6 / 3", 2, "6 % 3", 0);
    }

    /** "by 0 they give 0"; the least int by -1 wraps. */
    private static void divisionByZero() {
        gives("7 / 0", 0, "7 % 0", 0, "0 / 0", 0, "0 % 0", 0, "-7 / 0", 0, "-7 % (1 - 1)", 0, "5 / 0 + 1", 1,
            "5 % 0 * 9 + 3", 3, "32768 * 65536 / -1", Integer.MIN_VALUE, "32768 * 65536 % -1", 0,
            "32768 * 65536 / 1", Integer.MIN_VALUE, "1 or 7 / 0", 1, "0 and 7 / 0", 0);
    }

    /** "or, and, not, < = > give 1, 0". */
    private static void truthIs1Or0() {
        gives("5 or 7", 1, "0 or 7", 1, "0 or -7", 1, "0 or 0", 0, "5 and 7", 1, "2 and 1", 1, "5 and 0", 0, "0 and 5", 0,
            "not 0", 1, "not 1", 0, "not -1", 0, "not 2", 0, "(1 < 2) + (2 > 1) + (3 = 3)", 3, "(5 or 0) * 9", 9,
            "(5 and 3) * 9", 9);
    }

    /** "The first LINE that counts gives it; none: 0 (LINE -1)". */
    private static void theFirstLineThatCounts() {
        gives("if 0:5;6", 6, "if 1:5;6", 5, "if -1:5;6", 5, "if 2:5;6", 5, "unless 0:5;6", 5, "unless 1:5;6", 6,
            "unless -1:5;6", 6, "5;6", 5, "if 0:5", 0, "unless 1:5", 0, "if 0:5;unless 1:6;if 0:7", 0, "if 1:0;6", 0,
            "if 1:0 - 9;6", -9);
        lines("if 0:5;6", 1, "if 1:5;6", 0, "unless 0:5;6", 0, "unless 1:5;6", 1, "if 0:5", -1, "unless 1:5", -1,
            "if 0:5;unless 1:6;if 0:7", -1, "if 1:0;6", 0, "0", 0);
    }

    /** "LINES by numbers from 0 (-1 without a RULE, too)". */
    private static void linesByNumbersFrom0() {
        StringBuilder text = new StringBuilder();
        for (int line = 0; line < 20; line++) {
            lines(text + "7", line);
            text.append("if 0:1;");
        }
        HillBoxes x = new HillBoxes();
        Due.be("NEAR without a RULE", x.says(0, -1, -1, 1), -1);
        Desk.rule(x, "if day : 3; 4", 0, 0);
        Due.be("NEAR on DAY 0", x.says(0, -1, -1, 1), 1);
        x.days(1);
        Due.be("NEAR on DAY 1", x.says(0, -1, -1, 1), 0);
        // a LINE that was told ahead is not told again
        x.finder(0);
        Due.be("HIDE without a RULE behind it", x.says(1, 0, 1, 1), -1);
        Desk.rule(x, "if kind = 2 : 1", 1, 0);
        Due.be("HIDE of a KIND that counts", x.says(1, 0, 2, 1), 0);
        Due.be("HIDE of one that does not", x.says(1, 0, 1, 1), -1);
        Due.be("NEAR on DAY 1 behind it", x.says(0, -1, -1, 1), 0);
    }

    /** "NEAR is held within 0 .. 15". */
    private static void nearIsHeldWithin0To15() {
        String[] texts = {"-1", "0", "1", "14", "15", "16", "99999", "32768 * 65536", "32768 * 65536 - 1", "if 0:9"};
        int[] due = {0, 0, 1, 14, 15, 15, 15, 0, 15, 0};
        for (int i = 0; i < texts.length; i++) {
            HillBoxes x = new HillBoxes();
            x.finder(0);
            x.hide(0, 1, 0);
            Desk.rule(x, texts[i], 0, 0);
            Due.be("NEAR of " + texts[i], x.says(0, -1, -1, 0), due[i]);
            Due.be("the LINE of NEAR of " + texts[i], x.says(0, -1, -1, 1), texts[i].startsWith("if") ? -1 : 0);
            Due.be("at FAR 0", x.why(0, 1, 0, 1), due[i] > 0 ? 3 : 0);
            Due.be("at FAR 14", x.why(0, 1, 59, 1), due[i] > 14 ? 3 : 0);
        }
    }

    /** NEAR alone is held: what others give is told as it is, and not 0 is yes. */
    private static void valuesAreNotHeld() {
        HillBoxes x = new HillBoxes();
        x.finder(0);
        x.hide(0, 1, 0);
        for (int use : new int[] {1, 3, 4}) {
            Desk.rule(x, "0 - 99", use, 0);
            Due.be("USE " + use + " below 0", x.says(use, use == 3 ? -1 : 0, 1, 0), -99);
            Desk.rule(x, "99", use, 0);
            Due.be("USE " + use + " above 15", x.says(use, use == 3 ? -1 : 0, 1, 0), 99);
        }
        Desk.rule(x, "-1", 3, 0);
        Desk.rule(x, "-1", 4, 0);
        Desk.rule(x, "-1", 1, 0);
        Desk.rule(x, "-1", 2, 0);
        x.log(0, 1, 0, 1);
        Due.be("to be PUT DOWN", x.toPut(-1), 1);
        Due.be("SHOWN", x.nearest(0, 0), 0);
        Due.be("may hide", x.why(0, 1, 30, 1), 0);
        Due.be("COUNTS", x.first(1), 0);
    }

    // ---- NAMES

    /** What a text of COUNTS gives of LOG 0: whether the BOX was found first. */
    private static void counts(String what, HillBoxes x, int box, String text, boolean due) {
        Desk.rule(x, text, 2, 0);
        Due.be(what + ": " + text, x.first(box) == HillBoxes.NOT ? 0 : 1, due ? 1 : 0);
    }

    /** "day DAY of the question (as d)"; "hour HOUR of the LOG (of COUNTS; else 0)". */
    private static void dayAndHour() {
        HillBoxes x = new HillBoxes();
        x.finder(0);
        x.hide(0, 1, 0);
        x.days(3);
        x.log(0, 1, 24 + 23, 1);
        counts("a LOG", x, 1, "day = 1", true);
        counts("a LOG", x, 1, "day = 3", false);
        counts("a LOG", x, 1, "hour = 23", true);
        HillBoxes y = new HillBoxes();
        y.finder(0);
        y.hide(0, 1, 0);
        y.days(3);
        y.log(0, 1, 24, 1);
        counts("a LOG in HOUR 0", y, 1, "hour = 0 and day = 1", true);
        counts("a LOG in HOUR 0", y, 1, "hour or day = 0", false);
        for (int use : new int[] {1, 3, 4}) {
            Desk.rule(x, "day * 100 + hour", use, 0);
            Due.be("a LOG in HOUR 23 COUNTS", x.first(1), 0);
            Due.be("day and hour of USE " + use + " behind it", x.says(use, use == 3 ? -1 : 0, 1, 0), 300);
        }
        for (int use : new int[] {0, 1, 3, 4, 10}) {
            Desk.rule(x, use == 0 ? "hour * 15" : "hour", use, 0);
        }
        Due.be("SHOWN, by no hour", x.nearest(0, 0), NOT);
        Due.be("DOWN, by no hour", x.toPut(-1), 0);
        Due.be("HIDE, by no hour", x.why(0, 1, 30, 1), 1);
        Desk.rule(x, "1", 1, 0);
        Due.be("NEAR, by no hour", x.why(0, 1, 0, 1), 0);
        x.owner(0, 0);
        Due.be("a LEAVE, by no hour", x.why(0, 1, 0, 1), 2);
    }

    /** "since DAYS since the FINDER came, age DAYS since the BOX was hidden": 0 on that DAY; "by d". */
    private static void sinceAndAge() {
        HillBoxes x = new HillBoxes();
        x.days(2);
        x.finder(0);
        x.hide(0, 1, 0);
        Desk.rule(x, "since * 100 + age", 4, 0);
        Due.be("on the DAY", x.says(4, 0, 1, 0), 0);
        x.days(1);
        Due.be("a DAY behind", x.says(4, 0, 1, 0), 101);
        x.days(100);
        Due.be("101 DAYS behind", x.says(4, 0, 1, 0), 10201);
        x.leaves(0);
        x.down(1);
        x.days(1);
        Due.be("of one that LEFT and one PUT DOWN", x.says(4, 0, 1, 0), 10302);
        x.log(0, 1, 24 * 2, 1);
        counts("a LOG of that DAY", x, 1, "since = 0 and age = 0", true);
        HillBoxes y = new HillBoxes();
        y.days(2);
        y.finder(0);
        y.hide(0, 1, 0);
        y.log(0, 1, 24, 1);
        counts("a LOG of a DAY ahead", y, 1, "since = 0 - 1 and age = 0 - 1", true);
    }

    /** "misses: LOGS not found behind the latest found by MOMENT, then number"; "As they are now". */
    private static void findsAndMisses() {
        HillBoxes x = new HillBoxes();
        x.finder(0);
        x.hide(0, 1, 0);
        Desk.rule(x, "finds * 100 + misses", 3, 0);
        Due.be("without LOGS", x.says(3, -1, 1, 0), 0);
        x.log(0, 1, 5, 0);
        Due.be("without a find all that say not found count", x.says(3, -1, 1, 0), 1);
        x.log(0, 1, 5, 1);
        Due.be("of like MOMENTS the one with the lesser number is ahead", x.says(3, -1, 1, 0), 100);
        x.log(0, 1, 5, 0);
        Due.be("of like MOMENTS the one with the greater number is behind", x.says(3, -1, 1, 0), 101);
        x.log(0, 1, 4, 0);
        Due.be("one of a MOMENT ahead", x.says(3, -1, 1, 0), 101);
        x.log(0, 1, 6, 0);
        Due.be("one of a MOMENT behind", x.says(3, -1, 1, 0), 102);
        x.log(0, 1, 4, 1);
        Due.be("a find ahead of the latest", x.says(3, -1, 1, 0), 202);
        x.log(0, 1, 6, 1);
        Due.be("a find behind all", x.says(3, -1, 1, 0), 300);
        counts("a LOG, as they are now", x, 1, "finds = 3 and misses = 0", true);
        Due.be("what 6 and 7", 10 * x.ofBody(1, 6) + x.ofBody(1, 7), 30);
    }

    /** "own how many BOXES the FINDER keeps (hidden, not PUT DOWN)". */
    private static void ownBoxes() {
        HillBoxes x = new HillBoxes();
        x.finder(0);
        x.finder(59);
        Desk.rule(x, "own", 1, 0);
        Due.be("none", x.says(1, 0, 1, 0), 0);
        Due.be("none: HIDE says no", x.hide(0, 1, 0), -21);
        Desk.rule(x, "own < 2", 1, 0);
        x.hide(0, 1, 0);
        x.hide(0, 1, 20);
        Due.be("two: HIDE says no", x.hide(0, 1, 40), -21);
        Due.be("another FINDER", x.hide(1, 1, 40), 4);
        x.down(2);
        Due.be("one PUT DOWN", x.hide(0, 1, 59), 5);
        x.leaves(1);
        x.asks(0, 4);
        Desk.rule(x, "own", 1, 0);
        Due.be("kept by two calls", x.says(1, 0, 1, 0), 2);
        x.take(4);
        Due.be("one TAKEN OVER", x.says(1, 0, 1, 0), 3);
        Due.be("of the old KEEPER", x.says(1, 1, 1, 0), 0);
    }

    /** "home FAR of the FINDER's home and the BOX"; "home by the BOX's CELL now". */
    private static void homeByTheCellNow() {
        HillBoxes x = new HillBoxes();
        x.finder(0);
        x.hide(0, 4, 59);
        x.step(20);
        x.hide(0, 3, 50);
        x.hide(0, 1, 0);
        Desk.rule(x, "home", 4, 0);
        Due.be("as far as can be", x.says(4, 0, 1, 0), 14);
        Due.be("a MANY by its first CELL", x.says(4, 0, 2, 0), 5);
        Due.be("at home", x.says(4, 0, 3, 0), 0);
        x.log(0, 1, 3, 1);
        x.move(1, 9, 23);
        Due.be("moved in a late HOUR", x.says(4, 0, 1, 0), 9);
        counts("a LOG ahead of the MOVE", x, 1, "home = 9", true);
        x.down(1);
        Due.be("PUT DOWN", x.says(4, 0, 1, 0), 9);
        x.finder(59);
        Due.be("a BOX at CELL 0, from CELL 59", x.says(4, 4, 3, 0), 14);
        Desk.rule(x, "home", 1, 0);
        Due.be("HIDE at CELL 0, from CELL 59", x.why(4, 1, 0, 1), 3);
        Due.be("HIDE at CELL 59, from CELL 59", x.why(4, 1, 59, 1), 1);
        Due.be("HIDE in says, from CELL 59", x.says(1, 4, 1, 0), 0);
    }

    /** "paper 1 if the FINDER's name is on its PAPER, mine 1 if the FINDER is its KEEPER". */
    private static void paperAndMine() {
        HillBoxes x = new HillBoxes();
        x.finder(0);
        x.finder(59);
        x.hide(0, 1, 0);
        x.hide(1, 1, 30);
        Desk.rule(x, "paper * 10 + mine", 4, 0);
        Due.be("without PAPER", x.says(4, 1, 2, 0), 0);
        Desk.paper(x, 2);
        Due.be("PAPER without a name", x.says(4, 1, 2, 0), 0);
        Desk.paper(x, 2, 1, 1);
        Due.be("a name twice is 1", x.says(4, 1, 2, 0), 10);
        Due.be("of another FINDER", x.says(4, 0, 2, 0), 1);
        Due.be("of another BOX", x.says(4, 1, 3, 0), 1);
        Desk.paper(x, 2, 0);
        Due.be("PAPER that took the place", x.says(4, 1, 2, 0), 0);
        Due.be("both", x.says(4, 0, 2, 0), 11);
    }

    /** "what is of a BOX or FINDER that there is not is 0". */
    private static void whatThereIsNotIs0() {
        HillBoxes x = new HillBoxes();
        x.days(9);
        x.finder(0);
        x.hide(0, 1, 59);
        x.days(1);
        Desk.rule(x, "own or since or age or finds or misses or hour or home or paper or mine or kind", 0, 0);
        Due.be("NEAR, but for day", x.says(0, -1, -1, 0), 0);
        Desk.rule(x, "15 * (kind or own or since or home or mine or age or hour)", 0, 0);
        Due.be("NEAR in why: no KIND, no FINDER, no BOX", x.why(0, 4, 59, 1), 0);
        Desk.rule(x, "day", 0, 0);
        Due.be("NEAR: day", x.says(0, -1, -1, 0), 10);
        Desk.rule(x, "own or since or hour or home or paper or mine", 3, 0);
        Due.be("DOWN, of a FINDER", x.says(3, -1, 1, 0), 0);
        Desk.rule(x, "kind * 100 + age", 3, 0);
        Due.be("DOWN, of its BOX", x.says(3, -1, 1, 0), 101);
        Desk.rule(x, "age or finds or misses or hour or paper or mine or home", 1, 0);
        Due.be("HIDE in says, of a BOX and home", x.says(1, 0, 4, 0), 0);
        Desk.rule(x, "own * 100 + since * 10 + kind", 1, 0);
        Due.be("HIDE in says, of its FINDER", x.says(1, 0, 4, 0), 114);
    }

    /** "Of HIDE, LEAVES: kind as asked, home of each CELL asked". */
    private static void kindAsAsked() {
        HillBoxes x = new HillBoxes();
        x.finder(0);
        x.owner(5, 2);
        for (int kind = 1; kind <= 5; kind++) {
            x.step(30);
            Desk.rule(x, "kind = " + kind, 1, 0);
            Desk.rule(x, "kind = " + kind + " and home = 5", 12, 0);
            for (int asked = 1; asked <= 5; asked++) {
                Due.be("KIND " + asked + " at a LEAVE for " + kind, x.why(0, asked, 5, 1), asked == kind ? 0 : 1);
                Due.be("HIDE gives", x.says(1, 0, asked, 0), asked == kind ? 1 : 0);
            }
        }
        Desk.rule(x, "1", 1, 0);
        Due.be("the LEAVE for KIND 5 alone", x.why(0, 4, 5, 1), 2);
        Due.be("the LEAVE at home 5 alone", x.why(0, 5, 5, 1), 0);
    }

    // ---- says, nearest

    /** "NEAR (both -1), HIDE (FINDER; box the KIND), DOWN (box; finder -1), SHOWN (both)". */
    private static void saysOfEachUse() {
        HillBoxes x = new HillBoxes();
        x.finder(0);
        x.hide(0, 1, 5);
        x.body(6);
        for (int finder = -2; finder <= 3; finder++) {
            for (int box = -2; box <= 7; box++) {
                boolean isBox = box == 1;
                boolean isFinder = finder == 0;
                String pair = " of " + finder + " and " + box;
                Due.be("NEAR" + pair, x.says(0, finder, box, 0), finder == -1 && box == -1 ? 2 : VOID);
                Due.be("HIDE" + pair, x.says(1, finder, box, 0), isFinder && box >= 1 && box <= 5 ? 1 : VOID);
                Due.be("DOWN" + pair, x.says(3, finder, box, 0), finder == -1 && isBox ? 0 : VOID);
                Due.be("SHOWN" + pair, x.says(4, finder, box, 0), isFinder && isBox ? 1 : VOID);
            }
        }
        for (int use : new int[] {-1, 2, 5, 10, 19}) {
            Due.be("USE " + use, x.says(use, 0, 1, 0), VOID);
            Due.be("USE " + use, x.says(use, -1, -1, 0), VOID);
        }
        Due.be("what -1", x.says(0, -1, -1, -1), VOID);
        Due.be("what 2", x.says(0, -1, -1, 2), VOID);
    }

    /** "of those whose CELL is SHOWN to it TODAY"; "-2 none". */
    private static void nearestIsOfThoseShown() {
        HillBoxes x = new HillBoxes();
        x.finder(0);
        x.finder(59);
        Due.be("no BOX at all", x.nearest(0, 0), NOT);
        x.hide(0, 1, 5);
        x.hide(1, 1, 9);
        Due.be("both are SHOWN", x.nearest(1, 4), 1);
        Due.be("at the first of them", x.nearest(1, 5), 0);
        Due.be("at the second of them", x.nearest(1, 9), 0);
        Due.be("as far from both", x.nearest(1, 7), 2);
        Desk.rule(x, "mine", 4, 0);
        Due.be("its own alone", x.nearest(1, 4), 5);
        x.down(3);
        Due.be("that one PUT DOWN", x.nearest(1, 4), NOT);
        Due.be("another FINDER", x.nearest(0, 5), 0);
        Desk.rule(x, "0", 4, 1);
        Due.be("not for TODAY yet", x.nearest(0, 5), 0);
        x.days(1);
        Due.be("TODAY none is SHOWN", x.nearest(0, 5), NOT);
        x.leaves(0);
        Desk.rule(x, "1", 4, 1);
        Due.be("to one that LEFT", x.nearest(0, 5), 0);
    }

    /** "FAR to its CELL (of MANY, RIDDLES the first CELL), not to where it lies". */
    private static void nearestToItsCell() {
        HillBoxes x = new HillBoxes();
        x.finder(0);
        x.step(55);
        x.step(59);
        x.hide(0, 3, 30);
        Due.be("at its first CELL", x.nearest(0, 30), 0);
        Due.be("at a secret STEP", x.nearest(0, 55), 7);
        Due.be("where it lies", x.nearest(0, 59), 11);
        HillBoxes y = new HillBoxes();
        y.finder(0);
        y.hide(0, 2, 30);
        Desk.riddle(y, 1, 4, 6, 0, 9, 0, 5, 6, 0, 5, 0);
        Due.be("a RIDDLE at its CELL", y.nearest(0, 30), 0);
        Due.be("a RIDDLE where its letters point", y.nearest(0, 59), 11);
    }
}
