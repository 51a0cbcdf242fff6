/** Promises 14 to 18: THE TAPE, rules, what they say, the nearest BOX. */
final class RuleTests {
    public static void main(String[] args) {
        feed();
        rule();
        ruleWhenFull();
        faults();
        faultsOfOpenOnes();
        texts();
        lines();
        longestTexts();
        inForce();
        says();
        namesOfFinderAndBox();
        namesOfLogs();
        namesOfHide();
        nearHeld();
        nearest();
        Due.end("RuleTests");
    }

    private static void feed() {
        HillBoxes x = new HillBoxes();
        Due.be("feed 0", x.feed(0, 65), HillBoxes.BAD);
        Due.be("feed 5", x.feed(5, 65), HillBoxes.BAD);
        Due.be("feed -1", x.feed(-1, 65), HillBoxes.BAD);
        Due.be("feed 1: the lowest byte alone", x.feed(1, 0x20202031), 1);
        Due.be("feed 2", x.feed(2, 0x00003220 | 0xff0000), 3);
        Due.be("1 2", x.rule(0, 0), -102);
        Due.be("empty then", x.count(7), 0);
        x.feed(4, 0x36372a38);
        Due.be("8*76", x.rule(2, 0), 0);
        x.feed(4, 0xff202031);
        Due.be("the highest byte", x.rule(2, 0), -103);
        for (int i = 1; i <= 39; i++) {
            Due.be("feed 4", x.feed(4, 0x31313131), 4 * i);
        }
        Due.be("feed 3", x.feed(3, 0x31313131), 159);
        Due.be("feed 2 beyond 160", x.feed(2, 0), HillBoxes.FULL);
        Due.be("it changed nothing", x.count(7), 159);
        Due.be("feed 0 ahead of FULL", x.feed(0, 0), HillBoxes.BAD);
        Due.be("feed 1", x.feed(1, 0), 160);
        Due.be("feed 1 beyond 160", x.feed(1, 0), HillBoxes.FULL);
    }

    private static void rule() {
        HillBoxes x = new HillBoxes();
        Desk.feed(x, "7");
        int[] no = {-1, 5, 6, 9, 20, Integer.MAX_VALUE};
        for (int use : no) {
            Due.be("USE " + use, x.rule(use, 0), HillBoxes.BAD);
        }
        Due.be("DAY -1", x.rule(0, -1), HillBoxes.BAD);
        Due.be("DAY 1000", x.rule(0, 1000), HillBoxes.BAD);
        Due.be("THE TAPE stays", x.count(7), 1);
        Due.be("rule", x.rule(0, 999), 0);
        Due.be("THE TAPE is empty", x.count(7), 0);
        Due.be("rule of an empty TAPE", x.rule(0, 0), -100);
        int[] uses = {1, 2, 3, 4, 10, 19};
        for (int i = 0; i < uses.length; i++) {
            Due.be("USE " + uses[i], Desk.rule(x, "1", uses[i], 999 - i), i + 1);
        }
        Due.be("a FAULT makes none", Desk.rule(x, "1)", 0, 0), -101);
        Due.be("rules", x.count(6), 7);
    }

    private static void ruleWhenFull() {
        HillBoxes x = new HillBoxes();
        for (int i = 0; i < 20; i++) {
            Due.be("rule " + i, Desk.rule(x, "" + i % 16, 0, 0), i);
        }
        Desk.feed(x, "1 +");
        Due.be("rule 20", x.rule(0, 0), HillBoxes.FULL);
        Due.be("THE TAPE stays", x.count(7), 3);
        Due.be("bad ahead of FULL", x.rule(5, 0), HillBoxes.BAD);
        x.finder(0);
        Due.be("a RULE behind the last beside", x.rank(0, 0, 20, 0), HillBoxes.BAD);
        Due.be("the last rule says", x.says(0, -1, -1, 0), 3);
    }

    private static int faultOf(String text) {
        return -100 - Desk.rule(new HillBoxes(), text, 0, 0);
    }

    private static final int NONE = -100;

    private static void fault(String text, int due) {
        Due.be("FAULT of " + text, faultOf(text), due);
    }

    private static void faults() {
        fault("", 0);
        fault("   ", 3);
        fault(" 1 ", NONE);
        fault("1 2", 2);
        fault("99999", NONE);
        fault("00000", NONE);
        fault("000001", 0);
        fault("1 + 123456", 4);
        fault("1 123456", 2);
        fault("Day", 0);
        fault("day ", NONE);
        fault("dayday", 0);
        fault("day1", 3);
        fault("1day", 1);
        fault("da", 0);
        fault("1 + days", 4);
        fault("1\t+ 1", 1);
        fault("1 @", 2);
        fault("1 1 @", 2);
        fault("@ 1 1", 0);
        fault("1;", 2);
        fault(";1", 0);
        fault("1;;1", 2);
        fault("1;1", NONE);
        fault("if 1 : 2", NONE);
        fault("unless 1 : 2", NONE);
        fault("if 1", 4);
        fault("if 1 ; 2", 5);
        fault("if 1 :", 6);
        fault("if", 2);
        fault("unless", 6);
        fault("unless : 1", 7);
        fault("if 1 : 2 : 3", 9);
        fault("if if 1 : 2", 3);
        fault("1 : 2", 2);
        fault("(if 1 : 2)", 1);
        fault("(1 : 2)", 3);
        fault("(1 ; 2)", 3);
        fault("1 < 2 < 3", 6);
        fault("1 < 2 = 3", 6);
        fault("(1 < 2) < 3", NONE);
        fault("1 < not 2", 4);
        fault("1 < (not 2)", NONE);
        fault("1 + not 2", 4);
        fault("not 1 < 2", NONE);
        fault("1 not 2", 2);
        fault("1 or", 4);
        fault("or 1", 0);
        fault("1 and or 2", 6);
        fault("1 and not 2 or not 3", NONE);
        fault("+ 1", 0);
        fault("1 + + 1", 4);
        fault("1 + - 1", NONE);
        fault("1 - - 1", NONE);
        fault("1 * / 2", 4);
        fault("(1", 2);
        fault("1)", 1);
        fault("()", 1);
        fault("(1) 2", 4);
        fault("(1)(2)", 3);
        fault("- (1)", NONE);
        fault("-", 1);
        fault("- not 1", 2);
        fault("1 > ", 4);
        fault("1 > = 2", 4);
        fault("day kind", 4);
        fault("kind 123456", 5);
        fault((char) 0 + "1", 0);
        fault("1" + (char) 0, 1);
        fault("1 " + (char) 1, 2);
        fault("dayz", 0);
        fault("day{", 3);
        fault("day`", 3);
        fault("1/0", NONE);
        fault("1:0", 1);
        fault("9&0", 1);
        fault("minf", 0);
        fault("iff 1 : 2", 0);
        fault("i 1 : 2", 0);
        fault("notes 1", 0);
        fault("1" + (char) 255, 1);
        fault("1 " + (char) 160 + "1", 2);
        fault("day own", 4);
        fault("ifday", 0);
        fault("if day:own;unless day:own;own", NONE);
        fault("if day:own;unless day;own", 21);
    }

    private static void faultsOfOpenOnes() {
        fault("((((((1))))))", NONE);
        fault("(((((((1)))))))", 6);
        fault("------1", NONE);
        fault("-------1", 6);
        fault("not not not not not not 1", NONE);
        fault("not not not not not not not 1", 24);
        fault("not ( - ( not - 1 ) )", NONE);
        fault("not ( - ( not - - 1 ) )", 16);
        fault("not ( - ( not - ( 1 ) ) )", 16);
        fault("((((((1)))))) + ((((((1))))))", NONE);
        fault("- - - - - - 1 - - - - - - - 1", NONE);
        fault("- - - - - - 1 - - - - - - - - 1", 28);
        fault("not - - - - - 1 < - - - - - 2", NONE);
        fault("not - - - - - 1 < - - - - - - 2", 28);
        fault("not not not 1 and not not not not not not 1", NONE);
        fault("not not not 1 and not not not not not not not 1", 42);
        fault("(-1 + (-(--1)))", NONE);
        fault("(-1 + (-(---1)))", 11);
        fault("if ((((((1)))))) : ------1", NONE);
        fault("(((((( not 1", 7);
        fault("(((((( 1 (", 9);
    }

    /** What a text gives, of USE 3 on DAY 3 for a BOX of KIND 2 hidden on DAY 1. */
    private static int gives(String text) {
        HillBoxes x = new HillBoxes();
        x.days(1);
        x.finder(0);
        x.hide(0, 2, 11);
        x.days(2);
        int rule = Desk.rule(x, text, 3, 0);
        return rule < 0 ? rule : x.says(3, -1, 1, 0);
    }

    private static void text(String text, int due) {
        Due.be(text, gives(text), due);
    }

    private static void texts() {
        text("12345", 12345);
        text("00012", 12);
        text("1 + 2 * 3", 7);
        text("(1 + 2) * 3", 9);
        text("7 - 2 - 1", 4);
        text("7 - (2 - 1)", 6);
        text("100 / 7 / 2", 7);
        text("7 / 2 * 2", 6);
        text("17 % 5 * 2", 4);
        text("-7 / 2", -3);
        text("-7 % 2", -1);
        text("7 / -2", -3);
        text("7 % -2", 1);
        text("7 / 0", 0);
        text("7 % 0", 0);
        text("7 % (3 - 3) + 1", 1);
        text("-2 * 3", -6);
        text("- - 2", 2);
        text("2 - -2", 4);
        text("-(1 + 2)", -3);
        text("1 < 2", 1);
        text("2 < 2", 0);
        text("2 > 1", 1);
        text("2 > 2", 0);
        text("2 = 2", 1);
        text("2 = 1", 0);
        text("-1 < 0", 1);
        text("1 + 1 = 2", 1);
        text("1 + (1 = 2)", 1);
        text("(2 > 1) + (3 > 1)", 2);
        text("5 or 0", 1);
        text("0 or 0", 0);
        text("0 or -1", 1);
        text("5 and 3", 1);
        text("2 and 1", 1);
        text("5 and 0", 0);
        text("0 and 5", 0);
        text("1 or 1 and 0", 1);
        text("(1 or 1) and 0", 0);
        text("0 and 0 or 1", 1);
        text("not 0", 1);
        text("not 7", 0);
        text("not not 7", 1);
        text("not 1 < 0", 1);
        text("not 1 + 1", 0);
        text("not 0 and 0", 0);
        text("not (0 and 0)", 1);
        text("not 1 or 1", 1);
        text("99999 * 99999", 99999 * 99999);
        text("99999 * 99999 * 2", 99999 * 99999 * 2);
        text("-(65536 * 32768)", Integer.MIN_VALUE);
        text("65536 * 32768 / -1", Integer.MIN_VALUE);
        text("65536 * 32768 % -1", 0);
        text("65536 * 32768 - 1", Integer.MAX_VALUE);
        text("day", 3);
        text("kind", 2);
        text("age", 2);
        text("day*100+kind*10+age", 322);
        text("own or since or home or paper or mine or hour", 0);
        text("finds + misses", 0);
        text("1+2*3-(4-5)*-6/2%4<7 and not 0=1 or 0", 1);
    }

    private static void lines() {
        String[] texts = {
            "7", "if 1 : 2", "if 0 : 2", "unless 0 : 2", "unless 1 : 2", "if 0:1;if 0:2;3", "if 0:1;unless 0:2;3",
            "if -1:9;3", "5;6", "unless 5:6;if 0:7;unless day-3:8;9", "if 0:1;unless 1:1", "if 1:0;5"
        };
        int[] gives = {7, 2, 0, 2, 0, 3, 2, 9, 5, 8, 0, 0};
        int[] line = {0, 0, -1, 0, -1, 2, 1, 0, 0, 2, -1, 0};
        for (int i = 0; i < texts.length; i++) {
            HillBoxes x = new HillBoxes();
            x.finder(0);
            x.hide(0, 1, 0);
            x.days(3);
            Due.be("no LINE without a RULE", x.says(3, -1, 1, 1), -1);
            Desk.rule(x, texts[i], 3, 0);
            Due.be(texts[i], x.says(3, -1, 1, 0), gives[i]);
            Due.be("LINE of " + texts[i], x.says(3, -1, 1, 1), line[i]);
        }
    }

    private static void longestTexts() {
        StringBuilder sum = new StringBuilder("1");
        StringBuilder many = new StringBuilder();
        for (int i = 0; i < 79; i++) {
            sum.append("+1");
            many.append("0;");
        }
        text(sum.toString(), 80);
        text(sum.append("+").toString(), -260);
        text(many.append("7").toString(), 0);
        String deep = "1 or 1 and 1 < 1 + 1 * (";
        text(deep + deep + deep + deep + deep + deep + "7 ))))))", 1);
        StringBuilder ifs = new StringBuilder();
        for (int i = 0; i < 22; i++) {
            ifs.append("if 0:1;");
        }
        text(ifs.append("12345").toString(), 12345);
        text(" ".repeat(159) + "8", 8);
        text(" ".repeat(160), -260);
    }

    private static void inForce() {
        HillBoxes x = new HillBoxes();
        Due.be("none", x.inForce(0, 0, 0), HillBoxes.NOT);
        Desk.rule(new HillBoxes(), "1", 0, 0);
        Due.be("none of another object", x.inForce(0, 0, 0), HillBoxes.NOT);
        HillBoxes y = new HillBoxes();
        Desk.rule(y, "1", 0, 0);
        Due.be("the first", y.inForce(0, 0, 0), 0);
        int[] no = {-1, 5, 9, 20};
        for (int use : no) {
            Due.be("USE " + use, x.inForce(use, 0, 0), HillBoxes.BAD);
        }
        Due.be("d -1", x.inForce(0, -1, 0), HillBoxes.BAD);
        Due.be("d 1000", x.inForce(0, 1000, 0), HillBoxes.BAD);
        Due.be("k -1", x.inForce(0, 0, -1), HillBoxes.BAD);
        Due.be("k 1000", x.inForce(0, 0, 1000), HillBoxes.BAD);
        x.days(5);
        Desk.rule(x, "1", 0, 8);
        Desk.rule(x, "2", 0, 2);
        Desk.rule(x, "3", 12, 0);
        x.days(2);
        Desk.rule(x, "4", 0, 6);
        Due.be("ahead of all", x.inForce(0, 1, 999), HillBoxes.NOT);
        Due.be("from 2 on", x.inForce(0, 2, 5), 1);
        Due.be("not known yet", x.inForce(0, 2, 4), HillBoxes.NOT);
        Due.be("as known on 6", x.inForce(0, 6, 6), 1);
        Due.be("as known on 7", x.inForce(0, 6, 7), 3);
        Due.be("of two the one made last", x.inForce(0, 8, 6), 1);
        Due.be("of three the one made last", x.inForce(0, 999, 999), 3);
        Due.be("on 5 as known later", x.inForce(0, 5, 999), 1);
        Desk.rule(x, "5", 11, 0);
        Due.be("of another USE, made later", x.inForce(0, 2, 999), 1);
        Due.be("of another USE", x.inForce(12, 0, 5), 2);
        Due.be("of a USE without", x.inForce(13, 999, 999), HillBoxes.NOT);
        Due.be("of USE 1", x.inForce(1, 999, 999), HillBoxes.NOT);
    }

    private static void says() {
        HillBoxes x = new HillBoxes();
        final int v = HillBoxes.VOID;
        x.finder(0);
        x.hide(0, 1, 22);
        Due.be("NEAR", x.says(0, -1, -1, 0), 2);
        Due.be("HIDE", x.says(1, 0, 1, 0), 1);
        Due.be("DOWN", x.says(3, -1, 1, 0), 0);
        Due.be("SHOWN", x.says(4, 0, 1, 0), 1);
        Due.be("LINE of NEAR", x.says(0, -1, -1, 1), -1);
        Due.be("LINE of HIDE", x.says(1, 0, 1, 1), -1);
        Due.be("LINE of DOWN", x.says(3, -1, 1, 1), -1);
        Due.be("LINE of SHOWN", x.says(4, 0, 1, 1), -1);
        Due.be("COUNTS", x.says(2, 0, 1, 0), v);
        Due.be("a LEAVE", x.says(10, 0, 1, 0), v);
        Due.be("USE -1", x.says(-1, -1, -1, 0), v);
        Due.be("what 2", x.says(0, -1, -1, 2), v);
        Due.be("what -1", x.says(0, -1, -1, -1), v);
        Due.be("NEAR with a FINDER", x.says(0, 0, -1, 0), v);
        Due.be("NEAR with a BOX", x.says(0, -1, 1, 0), v);
        Due.be("HIDE without a FINDER", x.says(1, -1, 1, 0), v);
        Due.be("HIDE with a BOX for a FINDER", x.says(1, 1, 1, 0), v);
        Due.be("HIDE of KIND 0", x.says(1, 0, 0, 0), v);
        Due.be("HIDE of KIND 6", x.says(1, 0, 6, 0), v);
        Due.be("HIDE of KIND 5", x.says(1, 0, 5, 0), 1);
        Due.be("DOWN with a FINDER", x.says(3, 0, 1, 0), v);
        Due.be("DOWN without a BOX", x.says(3, -1, -1, 0), v);
        Due.be("DOWN of a FINDER", x.says(3, -1, 0, 0), v);
        Due.be("SHOWN without a FINDER", x.says(4, -1, 1, 0), v);
        Due.be("SHOWN without a BOX", x.says(4, 0, -1, 0), v);
        Due.be("SHOWN of a FINDER", x.says(4, 0, 0, 0), v);
        Due.be("SHOWN to a BOX", x.says(4, 1, 1, 0), v);
        Desk.rule(x, "if kind = 4 : 40; day - 1", 1, 0);
        Due.be("HIDE by its first LINE", x.says(1, 0, 4, 0), 40);
        Due.be("HIDE by its second LINE", x.says(1, 0, 3, 0), -1);
        Due.be("its second LINE", x.says(1, 0, 3, 1), 1);
        Desk.rule(x, "9", 1, 1);
        Due.be("not TODAY", x.says(1, 0, 3, 0), -1);
        x.days(1);
        Due.be("TODAY", x.says(1, 0, 3, 0), 9);
    }

    private static void namesOfFinderAndBox() {
        HillBoxes x = new HillBoxes();
        x.days(2);
        x.finder(0);
        x.finder(59);
        x.days(3);
        x.hide(0, 4, 33);
        x.hide(0, 1, 30);
        x.days(4);
        x.log(1, 2, 100, 1);
        x.log(1, 2, 101, 0);
        Desk.paper(x, 2, 1);
        x.move(2, 44, 23);
        Desk.rule(x, "day*1000*1000 + kind*100*1000 + own*10000 + since*1000 + age*100 + finds*10 + misses", 4, 0);
        Due.be("SHOWN to its KEEPER", x.says(4, 0, 2, 0), 9427411);
        Due.be("SHOWN to another", x.says(4, 1, 2, 0), 9407411);
        Due.be("SHOWN of another", x.says(4, 0, 3, 0), 9127400);
        Desk.rule(x, "hour*1000 + home*100 + paper*10 + mine", 4, 0);
        Due.be("SHOWN to its KEEPER, by the rest", x.says(4, 0, 2, 0), 801);
        Due.be("SHOWN to another, by the rest", x.says(4, 1, 2, 0), 610);
        Desk.rule(x, "day*1000*1000 + kind*100*1000 + own*10000 + since*1000 + age*100 + finds*10 + misses", 3, 0);
        Due.be("DOWN", x.says(3, -1, 2, 0), 9400411);
        Desk.rule(x, "hour*1000 + home*100 + paper*10 + mine", 3, 0);
        Due.be("DOWN by the rest", x.says(3, -1, 2, 0), 0);
        Desk.rule(x, "if kind or own or since or age or finds or misses or hour or home or paper or mine : 15; day", 0, 0);
        Due.be("NEAR", x.says(0, -1, -1, 0), 9);
        x.step(9);
        x.hide(0, 3, 0);
        Desk.rule(x, "home", 4, 0);
        Due.be("home of a MANY: its first CELL", x.says(4, 0, 4, 0), 0);
        x.down(3);
        Desk.rule(x, "own", 4, 0);
        Due.be("own without what is PUT DOWN", x.says(4, 0, 3, 0), 2);
    }

    private static void namesOfLogs() {
        HillBoxes x = new HillBoxes();
        x.days(3);
        x.finder(7);
        x.days(1);
        x.hide(0, 5, 0);
        x.days(2);
        x.log(0, 1, 24 * 2 + 5, 1);
        Desk.rule(x, "day = 2 and since = -1 and age = -2 and hour = 5 and home = 7 and finds = 1 and mine", 2, 0);
        Due.be("a LOG COUNTS by its own DAY", x.first(1), 0);
        Desk.rule(x, "day > 2", 2, 3);
        Due.be("a rule for later DAYS", x.first(1), 0);
        Desk.rule(x, "hour = 6", 2, 2);
        Due.be("a rule for its DAY", x.first(1), HillBoxes.NOT);
        x.log(0, 1, 24 * 2 + 6, 1);
        Due.be("another LOG", x.first(1), 0);
    }

    private static void namesOfHide() {
        HillBoxes x = new HillBoxes();
        x.days(3);
        x.finder(44);
        x.days(2);
        Desk.rule(x, "day*1000*1000 + kind*100*1000 + own*10000 + since*1000 + age*100 + finds*10 + misses", 1, 0);
        Due.be("HIDE", x.says(1, 0, 4, 0), 5402000);
        Desk.rule(x, "hour*1000 + home*100 + paper*10 + mine", 1, 0);
        Due.be("HIDE: home is 0 in says", x.says(1, 0, 4, 0), 0);
        Due.be("HIDE: home is told in why", x.why(0, 1, 0, 0), 0);
        Due.be("HIDE: home 0 in why", x.why(0, 1, 44, 0), 1);
    }

    private static void nearHeld() {
        HillBoxes x = new HillBoxes();
        String[] texts = {"16", "15", "0", "-1", "if 0 : 1", "99999 * 99999"};
        int[] due = {15, 15, 0, 0, 0, 15};
        for (int i = 0; i < texts.length; i++) {
            Desk.rule(x, texts[i], 0, 0);
            Due.be("NEAR by " + texts[i], x.says(0, -1, -1, 0), due[i]);
        }
        Due.be("NEAR: LINE", x.says(0, -1, -1, 1), 0);
    }

    private static void nearest() {
        HillBoxes x = new HillBoxes();
        x.finder(0);
        x.finder(59);
        Due.be("no boxes", x.nearest(0, 0), HillBoxes.NOT);
        Due.be("cell 60", x.nearest(0, 60), HillBoxes.BAD);
        Due.be("cell -1", x.nearest(0, -1), HillBoxes.BAD);
        Due.be("no finder", x.nearest(2, 0), HillBoxes.BAD);
        x.hide(0, 4, 5);
        Due.be("a box is no finder", x.nearest(2, 0), HillBoxes.BAD);
        Due.be("at it", x.nearest(0, 5), 0);
        x.move(2, 9, 23);
        Due.be("moved", x.nearest(0, 5), 4);
        x.step(5);
        x.step(4);
        x.hide(1, 3, 50);
        Due.be("not to the STEPS of a MANY", x.nearest(0, 5), 4);
        Due.be("to its first CELL", x.nearest(0, 51), 1);
        Due.be("at its first CELL", x.nearest(0, 50), 0);
        Desk.rule(x, "hour", 4, 0);
        Due.be("shown without an hour", x.nearest(0, 5), HillBoxes.NOT);
        Desk.rule(x, "not mine", 4, 0);
        Due.be("not shown: its own", x.nearest(0, 9), 14);
        Due.be("shown to another", x.nearest(1, 50), 14);
        Desk.rule(x, "home = 5", 4, 0);
        Due.be("home by the first CELL of a MANY", x.nearest(0, 51), 1);
        x.down(3);
        Due.be("put down", x.nearest(0, 51), HillBoxes.NOT);
        Desk.rule(x, "day", 4, 0);
        Due.be("nothing is shown", x.nearest(0, 0), HillBoxes.NOT);
        x.days(1);
        Due.be("shown TODAY", x.nearest(0, 0), 9);
    }
}
