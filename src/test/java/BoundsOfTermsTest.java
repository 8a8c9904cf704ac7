/**
 * The document's Terms, sentence by sentence: each that names a boundary has a test of its own here, just within the
 * boundary and just beyond it.
 */
public final class BoundsOfTermsTest extends Dues {
    /** Whole carcasses are left: what a row of so many brings hangs on PART 0 alone. */
    private static CutFloor wholes(int many, int price, int over, int order) {
        CutFloor x = new CutFloor();
        x.carcasses(0, many);
        x.put(0, 0, price);
        x.put(0, 1, over);
        x.put(0, 2, order);
        return x;
    }

    /** A WAY for PART 3 (way 1), asked for CLASS 2 on DAY 9, where it weighs 50. */
    private static CutFloor asked(String clauses) {
        CutFloor x = hall("cut 1 to 1 2;cut 3 to 1 4" + clauses);
        x.terms(0, 9);
        x.weighs(3, 2, 50);
        return x;
    }

    private static int minutes(String sum) {
        return asked(";minutes " + sum).goes(1, 2, 1);
    }

    private static int skill(String sum) {
        return asked(";skill " + sum).goes(1, 2, 2);
    }

    private static int can(String test) {
        return asked(" if " + test).goes(1, 2, 0);
    }

    // Terms I

    private static void classes() {
        at("I: CLASSES 0 .. 2");
        CutFloor x = new CutFloor();
        due("class -1", x.carcasses(-1, 0), -1);
        due("class 3", x.carcasses(3, 0), -1);
        due("class 0", x.carcasses(0, 0), 0);
        due("class 2", x.carcasses(2, 0), 0);
        due("cuttings of -1", x.cuttings(-1), NONE);
        due("cuttings of 0", x.cuttings(0), 1);
        due("cuttings of 2", x.cuttings(2), 1);
        due("cuttings of 3", x.cuttings(3), NONE);
    }

    private static void carcassesInAll() {
        at("I: CARCASSES, 0 at first");
        CutFloor fresh = new CutFloor();
        for (int cls = 0; cls < 3; cls++) due("class " + cls, fresh.carcasses(cls, 0), 0);
        at("I: CARCASSES, 8 at most in all");
        for (int cls = 0; cls < 3; cls++) {
            CutFloor x = new CutFloor();
            due("eight of one", x.carcasses(cls, 8), 0);
            due("they stand", x.count(0), 8);
            for (int other = 0; other < 3; other++) {
                if (other != cls) due("a ninth", x.carcasses(other, 1), -3);
            }
            due("the same eight", x.carcasses(cls, 8), 8);
            due("nine of one is no number", x.carcasses(cls, 9), -1);
            due("still eight", x.count(0), 8);
        }
        CutFloor y = new CutFloor();
        y.carcasses(0, 3);
        y.carcasses(1, 3);
        due("two more", y.carcasses(2, 2), 0);
        due("three instead of two", y.carcasses(2, 3), -3);
        due("four instead of three", y.carcasses(0, 4), -3);
        due("still two", y.carcasses(2, 1), 2);
        due("now there is room for one", y.carcasses(0, 4), 3);
    }

    private static void parts() {
        at("I: PARTS 0 .. 9");
        CutFloor x = new CutFloor();
        due("part 0", x.weighs(0, 0, 1), 0);
        due("part 9", x.weighs(9, 0, 1), 0);
        due("part 10", x.weighs(10, 0, 1), -1);
        due("part -1", x.weighs(-1, 0, 1), -1);
        due("left of part 9", x.left(0, 0, 9), 0);
        due("left of part 10", x.left(0, 0, 10), NONE);
        at("I: PART 0 is the carcass");
        due("a carcass that is left", x.left(0, 0, 0), 1);
        due("three of them", wholes(3, 0, 7, 0).best(0), 21);
    }

    private static void weights() {
        at("I: a WEIGHT 0 .. 9999, 0 at first");
        CutFloor x = new CutFloor();
        for (int part = 0; part < 10; part++) {
            for (int cls = 0; cls < 3; cls++) due("at first", x.weighs(part, cls, 9999), 0);
        }
        due("9999 stood", x.weighs(4, 1, 0), 9999);
        due("10000", x.weighs(4, 1, 10_000), -1);
        due("-1", x.weighs(4, 1, -1), -1);
        due("0 stood", x.weighs(4, 1, 5), 0);
        due("by CLASS", x.weighs(4, 2, 5), 9999);
        due("by PART", x.weighs(5, 1, 5), 9999);
    }

    private static void market() {
        String[] names = {"PRICE 0 .. 999", "OVER 0 .. 999", "ORDER 0 .. 8"};
        int[] most = {999, 999, 8};
        for (int what = 0; what < 3; what++) {
            at("I: " + names[what] + ", 0 at first");
            CutFloor x = new CutFloor();
            for (int part = 0; part < 10; part++) {
                due("at first", x.put(part, what, most[what]), 0);
                due("the most stood", x.put(part, what, 0), most[what]);
                due("one beyond", x.put(part, what, most[what] + 1), -1);
                due("one below", x.put(part, what, -1), -1);
                due("0 stood", x.put(part, what, 0), 0);
            }
        }
        at("I: ORDER: 5 PARTS at most have one above 0");
        CutFloor x = new CutFloor();
        for (int part = 0; part < 4; part++) x.put(part, 2, 8);
        due("a fifth", x.put(9, 2, 1), 0);
        for (int part = 4; part < 9; part++) due("a sixth", x.put(part, 2, 1), -3);
        due("five", x.count(7), 5);
        due("none for a sixth", x.put(8, 2, 0), 0);
        due("another number for a fifth", x.put(9, 2, 8), 1);
        due("PRICE of a sixth", x.put(8, 0, 9), 0);
        due("OVER of a sixth", x.put(8, 1, 9), 0);
        due("the first goes", x.put(0, 2, 0), 8);
        due("now another comes", x.put(8, 2, 1), 0);
        due("PART 0 is one of them", x.put(0, 2, 1), -3);
        fiveOrders();
    }

    /** Five ORDERS, each of another PRICE, and CUTTINGS that fill one or two of them. */
    private static void fiveOrders() {
        at("I: all of five ORDERS count");
        CutFloor x = hall("cut 0 to 1 1;cut 0 to 1 3;cut 0 to 1 5;cut 0 to 1 7;cut 0 to 1 9;cut 0 to 1 7 and 1 9 if class=1");
        int[] parts = {1, 3, 5, 7, 9};
        for (int part = 0; part < 10; part++) x.put(part, 0, 100 + part);
        for (int part : parts) x.put(part, 2, 1);
        int[] brings = {0, 109, 216, 321, 424, 525, 525, 525, 525};
        for (int n = 0; n <= 8; n++) {
            x.carcasses(0, n);
            due(n + " carcasses", x.best(0), brings[n]);
        }
        x.carcasses(0, 2);
        due("the dearest two", x.plan(0) * 10 + x.plan(1), 45);
        due("in two ways", x.best(1), 2);
        x.put(9, 2, 2);
        due("the fifth twice", x.best(0), 218);
        due("the fifth twice", x.plan(0) * 10 + x.plan(1), 55);
        due("WORTH of the fifth", x.worth(9), 0);
        x.put(9, 2, 1);
        due("WORTH of the fifth", x.worth(9), 109 - 107);
        due("WORTH of the fourth", x.worth(7), 0);
        x.carcasses(0, 0);
        x.carcasses(1, 2);
        due("two at once", x.best(0), 109 + 107 + 105);
        x.put(5, 0, 0);
        due("two at once", x.best(0), 109 + 107 + 103);
        at("I: ORDERS of fewer PARTS than before");
        x.put(1, 2, 0);
        x.put(3, 2, 0);
        due("three are left", x.best(0), 109 + 107);
        x.put(7, 2, 0);
        due("two are left", x.best(0), 109);
        x.put(9, 2, 3);
        due("of one three times", x.best(0), 218);
        for (int part : parts) x.put(part, 2, 0);
        due("none is left", x.best(0), 0);
        x.put(9, 2, 1);
        due("a PRICE that no ORDER wants brings nothing", x.best(0), 109);
        for (int part : parts) x.put(part, 2, 8);
        for (int part : parts) x.put(part, 1, 50);
        x.carcasses(1, 0);
        x.carcasses(0, 8);
        due("eight of the fifth", x.best(0), 8 * 109);
        x.put(9, 2, 7);
        due("seven of it and one of the fourth", x.best(0), 7 * 109 + 107);
        x.put(7, 0, 0);
        due("seven of it and one of the third of 0 .. 0", x.best(0), 7 * 109 + 103);
        x.put(1, 0, 0);
        x.put(3, 0, 0);
        due("OVER of the fifth", x.best(0), 7 * 109 + 50);
    }

    private static void men() {
        at("I: MEN 0 .. 3, 4 at most");
        CutFloor x = new CutFloor();
        for (int i = 0; i < 4; i++) due("man", x.man(0), i);
        due("a fifth", x.man(0), -5);
        due("four", x.count(3), 4);
        due("man 3", x.skills(3, 1), 0);
        due("man 4", x.skills(4, 1), -2);
        due("man -1", x.skills(-1, 1), -2);
        at("I: SKILLS 0 .. 3 as bits");
        CutFloor y = new CutFloor();
        due("no skill", y.man(0), 0);
        due("all four", y.man(15), 1);
        due("a fifth skill", y.man(16), -1);
        due("below", y.man(-1), -1);
        due("a fifth skill", y.skills(0, 16), -1);
        due("below", y.skills(0, -1), -1);
        due("still none", y.skills(0, 15), 0);
        due("still all four", y.skills(1, 0), 15);
        for (int skill = 0; skill < 4; skill++) {
            CutFloor z = hall("cut 0 to 1 1;skill " + skill);
            z.carcasses(0, 1);
            z.put(1, 1, 1);
            z.man(0);
            for (int bits = 0; bits < 16; bits++) {
                z.skills(0, bits);
                due("SKILL " + skill + " by bits " + bits, z.share(0), (bits >> skill & 1) == 1 ? 0 : NONE);
            }
        }
    }

    private static void termsOfTheDay() {
        at("I: DAY 0 .. 99, 0 at first");
        CutFloor x = new CutFloor();
        due("at first", x.terms(0, 99), 0);
        due("100", x.terms(0, 100), -1);
        due("-1", x.terms(0, -1), -1);
        due("99 stood", x.terms(0, 0), 99);
        due("0 stood", x.terms(0, 0), 0);
        at("I: LOSS 0 .. 100, 5 at first");
        due("at first", x.terms(1, 100), 5);
        due("101", x.terms(1, 101), -1);
        due("-1", x.terms(1, -1), -1);
        due("100 stood", x.terms(1, 0), 100);
        due("0 stood", x.terms(1, 0), 0);
    }

    /** Calls that could be REFUSED by two things at once. */
    private static void refusedInOrder() {
        CutFloor x = new CutFloor();
        x.carcasses(0, 8);
        for (int part = 0; part < 5; part++) x.put(part, 2, 1);
        for (int i = 0; i < 4; i++) x.man(0);
        for (int i = 0; i < 16; i++) x.box(1, 1, 1, 1, 1, 1);
        for (int i = 0; i < 40; i++) x.yields(1, 1);
        at("I: REFUSED: -1 ahead of -2");
        due("skills", x.skills(4, 16), -1);
        due("back", x.back(2), -1);
        at("I: REFUSED: -1 ahead of -3");
        due("carcasses: nine", x.carcasses(1, 9), -1);
        due("carcasses: a class", x.carcasses(3, 1), -1);
        due("put: nine", x.put(5, 2, 9), -1);
        due("put: a part", x.put(10, 2, 1), -1);
        at("I: REFUSED: -1 ahead of -5");
        due("man", x.man(16), -1);
        due("box", x.box(0, 1, 1, 1, 1, 1), -1);
        due("yields", x.yields(1000, 1), -1);
        at("I: REFUSED: -2 ahead of -3");
        due("again: no such box is there either", x.again(16), -2);
        at("I: REFUSED: each by itself");
        due("-2", x.skills(4, 15), -2);
        due("-2", x.back(1), -2);
        due("-3", x.carcasses(1, 1), -3);
        due("-3", x.put(5, 2, 8), -3);
        due("-3", x.again(15), -3);
        due("-5", x.man(15), -5);
        due("-5", x.box(1, 1, 1, 1, 1, 1), -5);
        due("-5", x.yields(1, 1), -5);
        due("-6", x.row(), -6);
        due("-6", x.tree(), -6);
        CutFloor y = hall(crowdedForOne());
        y.carcasses(1, 8);
        at("I: REFUSED: -1 ahead of -3");
        due("week", y.week(-1), -1);
        due("week by itself", y.week(0), -3);
    }

    // Terms II

    private static void tape() {
        at("II: a TAPE of at most 400 bytes");
        CutFloor x = new CutFloor();
        for (int i = 1; i <= 20; i++) due("feed", x.feed(0, 0, 0, 0, 0), 20 * i);
        due("420", x.feed(0, 0, 0, 0, 0), NONE);
        due("still 400", x.count(8), 400);
        String longest = "cut 0 to 1 1" + times(" ", 387) + ";";
        faulty(longest, 400);
        readable(longest.substring(0, 399) + " ", 1);
        readable("minutes " + times("0", 391) + "1", 1);
        faulty("minutes " + times("z", 392), 8);
        readable("minutes " + times("1+", 47) + "1 if " + times("not ", 70) + "1=" + times(" ", 10) + "1", 1);
        at("II: none at first: no CLAUSE");
        CutFloor y = new CutFloor();
        due("bytes", y.count(8), 0);
        due("CLAUSES", y.count(1), 0);
        due("WAYS", y.count(2), 0);
        due("way 0", y.way(0, 0), NONE);
    }

    private static void tokens() {
        at("II: longest rows of letters a .. z");
        readable("cut0to1 1and1 2if class=class", 1);
        readable("minutes 1if not not 1=1or 1=1", 1);
        faulty("cu t 0 to 1 1", 0);
        faulty("cutto 0 to 1 1", 0);
        faulty("cut`0 to 1 1", 3);
        faulty("cut{0 to 1 1", 3);
        faulty("cuT 0 to 1 1", 0);
        faulty("cut 0 toif 1 1", 6);
        faulty("minutes 1 if not1=1 andnot 1=1", 20);
        faulty("skills 1", 0);
        faulty("skil 1", 0);
        faulty("minute 1", 0);
        faulty("minutess 1", 0);
        faulty("minutes classs", 8);
        faulty("minutes clas", 8);
        faulty("minutes weigh", 8);
        at("II: longest rows of digits");
        faulty("cut 0 to 11", 9);
        faulty("cut 0 to 1 11", 11);
        faulty("cut 00 to 1 00", 12);
        faulty("cut /to 1 1", 4);
        faulty("cut :to 1 1", 4);
        due("digits end at a letter", minutes("5if 1=1"), 5);
        due("digits end at a sign", minutes("5+5"), 10);
        faulty("minutes 5 5", 10);
        at("II: single other bytes");
        faulty("cut 0 to 1 1;;", 13);
        faulty("minutes 1 if 1<=1", 15);
        faulty("minutes 1 if 1=<1", 15);
        faulty("minutes 1++1", 10);
        faulty("minutes 1--1", 10);
        faulty("minutes +1", 8);
        for (int other : new int[] {0, 9, 10, 13, 31, 33, 127, 128, 160, 255}) {
            faulty("cut 0 to 1 1" + (char) other, 12);
            faulty((char) other + "cut 0 to 1 1", 0);
            faulty("cut" + (char) other + "0 to 1 1", 3);
        }
        at("II: any blanks (32) between");
        readable("   cut   0   to   1   1   ;   minutes   [   1   ]   if   (   1   <   2   )   ", 2);
        readable("cut 0 to 1 1;minutes[1]if(1<2)", 2);
        faulty("   x", 3);
    }

    private static void clauseLimits() {
        at("II: CLAUSES, 24 at most (FAULT at the 25th's first TOKEN)");
        readable(times("skill 1;", 23) + "skill 1", 24);
        readable(times("skill 1;", 15) + times("minutes 1;", 8) + "cut 0 to 1 1", 24);
        faulty(times("skill 1;", 24) + "skill 1", 24 * 8);
        faulty(times("skill 1;", 24) + "   cut 0 to 1 1", 24 * 8 + 3);
        faulty(times("skill 1;", 24) + " ?", 24 * 8 + 1);
        faulty(times("skill 1;", 24) + "  ", 24 * 8 + 2);
        faulty(times("skill 1;", 23) + "skill 1 skill 1", 24 * 8);
        at("II: 16 \"cut\" CLAUSES (FAULT at the 17th's first TOKEN)");
        readable(times("cut 0 to 1 1;", 15) + "cut 8 to 1 9", 16);
        readable(times("cut 0 to 1 1;", 16) + "skill 1", 17);
        faulty(times("cut 0 to 1 1;", 16) + "cut 0 to 1 1", 16 * 13);
        faulty(times("cut 0 to 1 1;", 16) + "skill 1;  cut 0 to 1 1", 16 * 13 + 10);
        faulty(times("cut 0 to 1 1;", 16) + "cut", 16 * 13);
        CutFloor x = hall(times("cut 0 to 1 1;", 15) + "cut 8 to 1 9");
        due("WAYS", x.count(2), 16);
        due("the sixteenth", x.way(15, 0), 8);
        due("a seventeenth", x.way(16, 0), NONE);
    }

    private static void sumLimits() {
        at("II: 50 NUMBERS and words in SUMS (FAULT at the 51st)");
        readable("minutes " + times("1+", 49) + "1", 1);
        readable("minutes " + times("day+", 49) + "way", 1);
        faulty("minutes " + times("1+", 50) + "1", 8 + 100);
        faulty("minutes " + times("1+", 50) + "  day", 8 + 102);
        faulty("minutes " + times("day+", 50) + "1", 8 + 200);
        faulty("minutes " + times("1+", 50) + "[1]", 8 + 101);
        faulty("minutes " + times("1+", 50), 8 + 100);
        at("II: 50 NUMBERS and words in SUMS: of all CLAUSES, and of TESTS too");
        readable("minutes " + times("1+", 24) + "1;skill " + times("1+", 22) + "1 if 1=1", 2);
        faulty("minutes " + times("1+", 24) + "1;skill " + times("1+", 23) + "1 if 1=1", 64 + 47 + 6);
        faulty("minutes " + times("1+", 24) + "1;skill " + times("1+", 25) + "1", 64 + 50);
        at("II: 50 NUMBERS and words in SUMS: of each TREE anew");
        CutFloor x = new CutFloor();
        for (int i = 0; i < 3; i++) due("fifty", read(x, "minutes " + times("1+", 49) + "1"), 1);
        due("fifty-one", read(x, "minutes " + times("1+", 50) + "1"), -6);
        due("fifty", read(x, "minutes " + times("1+", 49) + "1"), 1);
        at("II: 50 NUMBERS and words in SUMS: PARTS and MANY are none of these");
        readable(times("cut 0 to 1 1;", 15) + "cut 0 to 1 1;minutes " + times("1+", 49) + "1", 17);
        at("II: all limits of a TREE at once");
        readable(times("cut0to1 1;", 16) + times("skill 1;", 7) + "skill " + times("1+", 42) + "1", 24);
        faulty(times("cut0to1 1;", 16) + times("skill 1;", 7) + "skill " + times("1+", 43) + "1", 160 + 56 + 6 + 86);
        at("II: NUMBER (to 1,000)");
        due("1000", minutes("1000-950"), 50);
        due("0", minutes("0"), 0);
        faulty("minutes 1001-950", 8);
        faulty("minutes 4294967297", 8);
        faulty("minutes 18446744073709551617", 8);
        faulty("minutes 1 if 1001=1001", 13);
    }

    private static void bracketLimits() {
        at("II: 8 brackets of both kinds within one another (FAULT at the 9th)");
        readable("minutes " + times("[", 8) + "1" + times("]", 8), 1);
        faulty("minutes " + times("[", 9) + "1" + times("]", 9), 8 + 8);
        readable("minutes 1 if " + times("(", 8) + "1=1" + times(")", 8), 1);
        faulty("minutes 1 if " + times("(", 9) + "1=1" + times(")", 9), 13 + 8);
        readable("minutes 1 if " + times("(", 3) + times("[", 5) + "1" + times("]", 5) + "=1" + times(")", 3), 1);
        faulty("minutes 1 if " + times("(", 3) + times("[", 6) + "1" + times("]", 6) + "=1" + times(")", 3), 13 + 8);
        faulty("minutes 1 if " + times("(", 8) + "[1]=1" + times(")", 8), 13 + 8);
        faulty("minutes 1 if " + times("(", 8) + "1=[1]" + times(")", 8), 13 + 10);
        faulty("minutes 1 if " + times("(", 8) + "1=1 and (1=1)" + times(")", 8), 13 + 16);
        at("II: brackets side by side are not within one another");
        readable("minutes " + times("[1]+", 12) + "[1]", 1);
        readable("minutes 1 if " + times("(1=1)and", 12) + "(1=1)", 1);
        readable("minutes [[[[[[[[1]]]]]]]]*[[[[[[[[1]]]]]]]]", 1);
        readable("minutes [[[[[[[[1]]]]]]]] if ((((((((1=1))))))))", 1);
        readable("minutes 1 if ((((((((1=1)))))))) or ((((((((1=1))))))))", 1);
    }

    private static void pieces() {
        at("II: MANY 1 .. 9");
        readable("cut 0 to 1 1", 1);
        readable("cut 0 to 9 1", 1);
        faulty("cut 0 to 0 1", 9);
        faulty("cut 0 to 10 1", 9);
        faulty("cut 0 to 1 1 and 0 1", 17);
        faulty("cut 0 to 1 1 and 10 1", 17);
        at("II: PIECES of a PART greater than that which is cut: else FAULT at it");
        for (int part = 0; part < 9; part++) {
            readable("cut " + part + " to 1 " + (part + 1), 1);
            readable("cut " + part + " to 1 9", 1);
            faulty("cut " + part + " to 1 " + part, 11);
            faulty("cut " + part + " to 1 9 and 1 " + part, 19);
            faulty("cut " + part + " to 1 0", 11);
        }
        at("II: a PART is 0 .. 9");
        faulty("cut 9 to 1 9", 11);
        faulty("cut 9 to 1 10", 11);
        faulty("cut 0 to 1 10", 11);
        faulty("cut 10 to 1 11", 4);
    }

    private static void faults() {
        at("II: FAULT: the first TOKEN that can't go on there");
        faulty("x", 0);
        faulty(";", 0);
        faulty("0", 0);
        faulty("if 1=1", 0);
        faulty("cut cut", 4);
        faulty("cut 0 0", 6);
        faulty("cut 0 to to", 9);
        faulty("cut 0 to 1 to", 11);
        faulty("cut 0 to 1 1 to", 13);
        faulty("cut 0 to 1 1 1", 13);
        faulty("cut 0 to 1 1 and and", 17);
        faulty("cut 0 to 1 1 if if", 16);
        faulty("cut 0 to 1 1 if 1=1 1", 20);
        faulty("cut 0 to 1 1 if 1=1 not", 20);
        faulty("cut 0 to 1 1 if 1=1=1", 19);
        faulty("cut 0 to 1 1 if 1+1", 19);
        faulty("cut 0 to 1 1 if (1=1]", 20);
        faulty("cut 0 to 1 1 if ()", 17);
        faulty("cut 0 to 1 1 if 1=(1)", 18);
        faulty("cut 0 to 1 1 if [1]", 19);
        faulty("cut 0 to 1 1 if or 1=1", 16);
        faulty("minutes if", 8);
        faulty("minutes []", 9);
        faulty("minutes [1=1]", 10);
        faulty("minutes 1 and 1", 10);
        faulty("minutes 1=1", 9);
        faulty("minutes 1]", 9);
        faulty("skill cut", 6);
        faulty("minutes 1*", 10);
        faulty("minutes 1 if 1=1)", 16);
        at("II: FAULT: the end's: the TEXT's length");
        faulty("", 0);
        faulty(" ", 1);
        faulty("cut", 3);
        faulty("cut ", 4);
        faulty("cut 0", 5);
        faulty("cut 0 to", 8);
        faulty("cut 0 to 1", 10);
        faulty("cut 0 to 1 1 and", 16);
        faulty("cut 0 to 1 1 and 1   ", 21);
        faulty("cut 0 to 1 1;  ", 15);
        faulty("minutes", 7);
        faulty("skill 1+", 8);
        faulty("skill [1", 8);
        faulty("skill 1 if", 10);
        faulty("skill 1 if 1", 12);
        faulty("skill 1 if 1 = ", 15);
        faulty("skill 1 if (1=1 ", 16);
        faulty("skill 1 if 1=1 and", 18);
        faulty("skill 1 if 1=1 or ", 18);
        faulty("skill 1 if not", 14);
        faulty(times(" ", 400), 400);
    }

    private static void waysByOrder() {
        at("II: WAYS are the \"cut\" CLAUSES, 0, 1 .. in order");
        CutFloor x = hall("skill 1;cut 5 to 1 6;minutes 1;minutes 1;cut 2 to 1 3;skill way");
        due("WAYS", x.count(2), 2);
        due("CLAUSES", x.count(1), 6);
        due("way 0", x.way(0, 0), 5);
        due("way 1", x.way(1, 0), 2);
        due("way -1", x.way(-1, 0), NONE);
        due("way 2", x.way(2, 0), NONE);
        due("skill of way 0", x.goes(0, 0, 2), 0);
        due("skill of way 1", x.goes(1, 0, 2), 1);
        due("skill of way 2", x.goes(2, 0, 2), NOTHING);
        at("II: it is asked of a WAY for a CLASS: class, part, way, day, weight");
        CutFloor y = hall("cut 1 to 1 2;cut 3 to 1 4;minutes class;minutes part if day=1;minutes way if day=2;minutes day if day=59;"
                + "minutes weight if day=4");
        for (int cls = 0; cls < 3; cls++) {
            y.weighs(3, cls, 20 + cls);
            due("class", y.goes(1, cls, 1), cls);
        }
        int[][] want = {{1, 3}, {2, 1}, {59, 59}, {4, 22}};
        for (int[] dayAndMinutes : want) {
            y.terms(0, dayAndMinutes[0]);
            due("on day " + dayAndMinutes[0], y.goes(1, 2, 1), dayAndMinutes[1]);
        }
        due("the other way's part weighs nothing", y.goes(0, 2, 1), 0);
        due("less", can("1<2") * 100 + can("not 1<2") * 10 + can("not 2<1"), 101);
        due("more", can("2>1") * 100 + can("not 2>1") * 10 + can("not 1>2"), 101);
        due("as much", can("1=1") * 100 + can("not 1=1") * 10 + can("not 1=2"), 101);
        due("neither less nor more", can("2<2") + can("2>2"), 0);
        due("less and more", can("1<2 and 2>1 and not 2<1 and not 1>2"), 1);
        due("facts in a test", can("class=2 and part=3 and way=1 and day=9 and weight=50"), 1);
    }

    /** A "minutes" that is BROKEN does not HOLD: without it there is 1. */
    private static void broken() {
        at("II: beyond 1,000,000,000 a SUM is BROKEN");
        due("just that", minutes("1000*1000*1000/1000/1000/20"), 50);
        due("just that, added", minutes("[999*1000*1000+1000*1000]/1000/1000/20"), 50);
        due("one more, added", minutes("[1000*1000*1000+1]/1000/1000/20"), 1);
        due("one more, subtracted", minutes("[1000*1000*1000-[0-1]]/1000/1000/20"), 1);
        due("one more, multiplied", minutes("[1000+1]*[999*1000+1]/1000/1000/20"), 1);
        due("one less, multiplied", minutes("[1000*10-1]*[1000*100]/1000/1000/20"), 49);
        at("II: beyond 1,000,000,000 the other way a SUM is BROKEN");
        due("just that", minutes("60+[0-1000*1000*1000]/1000/1000/20"), 10);
        due("one more, subtracted", minutes("60+[0-1000*1000*1000-1]/1000/1000/20"), 1);
        due("one more, added", minutes("60+[0-1000*1000*1000+[0-1]]/1000/1000/20"), 1);
        due("one more, multiplied", minutes("60+[0-1000-1]*[999*1000+1]/1000/1000/20"), 1);
        due("just that, multiplied", minutes("60+1000*1000*[0-1000]/1000/1000/20"), 10);
        at("II: what would wrap around is BROKEN too");
        due("two to the 32nd", minutes("[256*256]*[256*256]+5"), 1);
        due("two to the 31st", minutes("[256*256]*[256*128]/1000/1000/50"), 1);
        due("ten to the 18th", minutes("[1000*1000*1000]*[1000*1000*1000]*0+5"), 1);
        due("what is broken within stays so", minutes("5+0*[1000*1000*1000*2]"), 1);
        due("a test too", can("[256*256]*[256*256]=0"), 0);
        due("a test too", can("not [256*256]*[256*256]=5"), 0);
        at("II: divided by 0 a SUM, a TEST is BROKEN");
        due("by 0", minutes("5/0"), 1);
        due("0 by 0", minutes("0/0"), 1);
        due("by a SUM of 0", minutes("5+7/[day-9]"), 1);
        due("not by 1", minutes("5+7/[day-8]"), 12);
        due("0 by 5", minutes("0/5"), 0);
        due("a test", can("5/0=0"), 0);
        due("its other side", can("0=5/0"), 0);
        due("a test turned", can("not 5/0=0"), 0);
        due("a test within", can("(5/0=0) or 1=1"), 0);
        at("II: / is cut towards 0");
        due("7/2", minutes("7/2"), 3);
        due("-7/2", minutes("10+[0-7]/2"), 7);
        due("7/-2", minutes("10+7/[0-2]"), 7);
        due("-7/-2", minutes("10+[0-7]/[0-2]"), 13);
        due("-1/2", minutes("10+[0-1]/2"), 10);
        due("1/2", minutes("1/2"), 0);
    }

    private static void holding() {
        at("II: a CLAUSE HOLDS, if its \"if\" is so");
        due("so", minutes("7 if 1=1"), 7);
        due("not so", minutes("7 if 1=2"), 1);
        due("none", minutes("7"), 7);
        at("II: and neither that nor its SUM is BROKEN");
        due("the test", minutes("7 if 1/0=0 or 1=1"), 1);
        due("the sum", minutes("1/0 if 1=1"), 1);
        due("the sum of one whose test is not so", minutes("7;minutes 1/0 if 1=2"), 7);
        due("an earlier one holds", minutes("7;minutes 1/0"), 7);
        due("a \"cut\" CLAUSE", can("1/0=0"), 0);
        at("II: \"or\" asks what stands behind only if it can still matter");
        due("it can't", can("1=1 or 1/0=0"), 1);
        due("it can", can("1=2 or 1/0=0"), 0);
        due("nor a third", can("1=2 or 1=1 or 1/0=0"), 1);
        due("nor a whole", can("1=1 or 1=1 and 1/0=0"), 1);
        at("II: \"and\" asks what stands behind only if it can still matter");
        due("it can't", can("not (1=2 and 1/0=0)"), 1);
        due("it can", can("not (1=1 and 1/0=0)"), 0);
        due("nor a third", can("not (1=1 and 1=2 and 1/0=0)"), 1);
        due("but what stands behind the \"or\"", can("1=2 and 1/0=0 or 1=1"), 1);
        due("ahead it is asked", can("1/0=0 and 1=2"), 0);
        due("ahead it is asked", can("1/0=0 or 1=1"), 0);
        at("II: a WAY can be gone for a CLASS, if its \"cut\" CLAUSE HOLDS");
        CutFloor x = hall("cut 0 to 1 1 if class>0;cut 0 to 1 2");
        due("class 0", x.goes(0, 0, 0), 0);
        due("class 1", x.goes(0, 1, 0), 1);
        due("class 2", x.goes(0, 2, 0), 1);
        due("the other", x.goes(1, 0, 0), 1);
    }

    private static void minutesAndSkill() {
        at("II: MINUTES 0 .. 60 (else the nearest)");
        due("60", minutes("60"), 60);
        due("61", minutes("61"), 60);
        due("the most", minutes("1000*1000*1000"), 60);
        due("0", minutes("0"), 0);
        due("-1", minutes("0-1"), 0);
        due("the least", minutes("0-1000*1000*1000"), 0);
        at("II: MINUTES: what the last \"minutes\" that HOLDS tells, 1 without");
        due("the last", minutes("7;minutes 8"), 8);
        due("the last that holds", minutes("7;minutes 8;minutes 9 if 1=2"), 8);
        due("none", minutes("7 if 1=2"), 1);
        due("not a skill", asked(";skill 3").goes(1, 2, 1), 1);
        due("the first CLAUSE of all", hall("minutes 5;cut 0 to 1 1").goes(0, 0, 1), 5);
        due("the last CLAUSE of all", hall("minutes 5;cut 0 to 1 1;minutes 6").goes(0, 0, 1), 6);
        due("an earlier one is broken", minutes("1/0;minutes 7"), 7);
        due("an earlier test is broken", minutes("3 if 1/0=0;minutes 7 if 1=1"), 7);
        at("II: SKILL likewise 0 .. 3");
        due("3", skill("3"), 3);
        due("4", skill("4"), 3);
        due("the most", skill("1000*1000*1000"), 3);
        due("0", skill("0"), 0);
        due("-1", skill("0-1"), 0);
        at("II: SKILL 0 without");
        due("none holds", skill("2 if 1=2"), 0);
        due("broken", skill("2/0"), 0);
        due("no minutes", asked(";minutes 3").goes(1, 2, 2), 0);
        due("the last that holds", skill("2;skill 1;skill 3 if 1=2"), 1);
        due("the first CLAUSE of all", hall("skill 2;cut 0 to 1 1").goes(0, 0, 2), 2);
    }

    private static void waste() {
        CutFloor x = hall("cut 0 to 2 1 and 1 2");
        x.weighs(0, 0, 200);
        x.weighs(1, 0, 80);
        x.weighs(2, 0, 30);
        at("II: a WAY WASTES what its PART weighs more than all its PIECES together");
        due("more", x.goes(0, 0, 3), 10);
        x.weighs(2, 0, 40);
        due("as much", x.goes(0, 0, 3), 0);
        due("as much is not OFF", x.goes(0, 0, 4), 0);
        x.weighs(2, 0, 41);
        due("less", x.goes(0, 0, 3), -1);
        at("II: OFF, if that is below 0");
        due("below", x.goes(0, 0, 4), 1);
        x.terms(1, 100);
        due("whatever the LOSS", x.goes(0, 0, 4), 1);
        at("II: OFF, if more than LOSS of a hundred of its PART");
        x.terms(1, 5);
        x.weighs(2, 0, 30);
        due("just five of a hundred", x.goes(0, 0, 4), 0);
        x.weighs(2, 0, 29);
        due("one more", x.goes(0, 0, 4), 1);
        x.terms(1, 6);
        due("within six", x.goes(0, 0, 4), 0);
        x.terms(1, 0);
        due("nothing may be lost", x.goes(0, 0, 4), 1);
        x.weighs(2, 0, 40);
        due("nothing is lost", x.goes(0, 0, 4), 0);
        x.terms(1, 100);
        x.weighs(1, 0, 0);
        x.weighs(2, 0, 0);
        due("all may be lost", x.goes(0, 0, 4), 0);
        x.terms(1, 99);
        due("but not all of a hundred", x.goes(0, 0, 4), 1);
        x.terms(1, 5);
        x.weighs(0, 0, 19);
        x.weighs(1, 0, 9);
        due("one of 19", x.goes(0, 0, 4), 1);
        x.weighs(0, 0, 20);
        x.weighs(2, 0, 1);
        due("one of 20", x.goes(0, 0, 4), 0);
        due("where nothing weighs", x.goes(0, 1, 4), 0);
        due("an OFF WAY can be gone all the same", hall("cut 0 to 1 1").goes(0, 0, 0), 1);
    }

    // Terms III

    private static void cuttings() {
        at("III: whether all of these are left as they are, or cut by one WAY that can be gone");
        CutFloor x = hall("cut 0 to 2 1;cut 1 to 1 2;cut 1 to 1 3 if class=1");
        due("no mixed ones", x.cuttings(0), 3);
        due("by one more WAY", x.cuttings(1), 4);
        due("both are cut alike", x.left(1, 2, 2) * 10 + x.left(1, 2, 3), 20);
        due("both are cut alike", x.left(1, 3, 2) * 10 + x.left(1, 3, 3), 2);
        at("III: 200 PARTS at most are left by it in all");
        CutFloor just = hall("cut 0 to 8 1;cut 1 to 5 2;cut 2 to 5 3");
        due("200", just.cuttings(0), 4);
        due("200 of one", just.left(0, 3, 3), 200);
        CutFloor more = hall("cut 0 to 8 1 and 1 9;cut 1 to 5 2;cut 2 to 5 3");
        due("201", more.cuttings(0), 3);
        due("the others stay", more.left(0, 2, 2), 40);
        CutFloor split = hall("cut 0 to 4 1 and 9 2;cut 1 to 9 3 and 9 4 and 9 5 and 9 6 and 9 7 and 3 8;cut 2 to 1 9");
        due("192 and 9 are 201", split.cuttings(0), 3);
        due("nines alone", split.choice(0, 2, 2), 2);
        CutFloor joined = hall("cut 0 to 4 1 and 8 2;cut 1 to 9 3 and 9 4 and 9 5 and 9 6 and 9 7 and 3 8;cut 2 to 1 9;cut 2 to 2 9");
        due("192 and 8 are 200", joined.cuttings(0), 6);
        due("192 and 8 are 200", joined.choice(0, 4, 1) * 10 + joined.choice(0, 5, 2), 12);
        StringBuilder deep = new StringBuilder("cut 0 to 9 1");
        for (int part = 1; part < 9; part++) deep.append(";cut ").append(part).append(" to 9 ").append(part + 1);
        due("nine to the ninth", hall(deep.toString()).cuttings(0), 3);
        due("hundreds at once", hall("cut 0 to 9 1" + times("and9 1", 60)).cuttings(0), 1);
        at("III: numbered as rows of choices: left ahead of all, then WAYS by number");
        CutFloor rows = hall("cut 1 to 1 2;cut 0 to 1 1;cut 0 to 1 3;cut 1 to 1 3;cut 3 to 1 4");
        int[][] want = {{NONE, NONE, NONE}, {1, NONE, NONE}, {1, 0, NONE}, {1, 3, NONE}, {1, 3, 4}, {2, NONE, NONE}, {2, NONE, 4}};
        due("rows", rows.cuttings(0), want.length);
        for (int i = 0; i < want.length; i++) {
            due("row " + i, rows.choice(0, i, 0), want[i][0]);
            due("row " + i, rows.choice(0, i, 1), want[i][1]);
            due("row " + i, rows.choice(0, i, 3), want[i][2]);
        }
        at("III: PARTS that do not come are left");
        due("part 9", rows.choice(0, 6, 9), NONE);
        due("part 2 in row 1", rows.choice(0, 1, 2), NONE);
        due("none of it", rows.left(0, 1, 2), 0);
        at("III: if there are more than 64, there is no PLAN");
        CutFloor z = hall(justSixtyFour());
        z.carcasses(2, 1);
        due("64", z.cuttings(2), 64);
        due("a PLAN", z.best(1), 64);
        z.terms(0, 1);
        due("more", z.cuttings(2), 65);
        due("no PLAN", z.best(1), NONE);
        z.terms(0, 0);
        due("64 again", z.best(1), 64);
        CutFloor others = hall(crowdedForOne());
        others.carcasses(0, 8);
        due("none of that CLASS is there", others.best(1), 1);
    }

    private static void plans() {
        at("III: a CUTTING of its CLASS for each carcass");
        CutFloor own = hall("cut 0 to 1 1 if class=0;cut 0 to 1 2 if class=1;cut 0 to 1 3 if class=2;cut 0 to 1 4 if class=2");
        for (int part = 1; part < 5; part++) own.put(part, 1, part * part);
        for (int cls = 0; cls < 3; cls++) due("one more of " + cls, own.value(cls), new int[] {1, 4, 16}[cls]);
        own.carcasses(0, 1);
        for (int cls = 0; cls < 3; cls++) due("one more of " + cls, own.value(cls), new int[] {1, 4, 16}[cls]);
        own.carcasses(1, 2);
        own.carcasses(2, 3);
        due("all bring", own.best(0), 1 + 2 * 4 + 3 * 16);
        for (int cls = 0; cls < 3; cls++) {
            due("one more of " + cls, own.value(cls), new int[] {1, 4, 16}[cls]);
            due("one fewer of " + cls, own.shorts(cls), new int[] {1, 4, 16}[cls]);
            due("the others", own.change(cls, 1), 57 - new int[] {1, 4, 16}[cls]);
            due("the others stay", own.change(cls, 0), 0);
        }
        due("of class 0", own.plan(0), 1);
        due("of class 1", own.plan(1) * 10 + own.plan(2), 11);
        due("of class 2", own.plan(3) * 10 + own.plan(5), 22);
        due("choice of class 1", own.choice(1, 1, 0), 1);
        due("choice of class 2", own.choice(2, 2, 0), 3);
        due("left of class 2", own.left(2, 2, 4), 1);
        at("III: those of CLASS 0 first");
        CutFloor x = hall("cut 0 to 1 1 if class=0;cut 0 to 1 1 if class=1;cut 0 to 1 1 if class=2;cut 0 to 1 2 if class=2");
        x.put(1, 1, 1);
        x.put(2, 1, 2);
        x.carcasses(2, 1);
        x.carcasses(1, 1);
        x.carcasses(0, 1);
        due("of class 0", x.plan(0), 1);
        due("of class 2", x.plan(2), 2);
        x.carcasses(1, 0);
        due("of class 2", x.plan(1), 2);
        due("none more", x.plan(2), NONE);
        at("III: as many as its ORDER bring its PRICE each, all others OVER");
        int[] brings = {0, 10, 20, 30, 31, 32, 33, 34, 35};
        for (int n = 0; n <= 8; n++) due(n + " of 3", wholes(n, 10, 1, 3).best(0), brings[n]);
        due("none is wanted", wholes(8, 10, 1, 0).best(0), 8);
        due("eight are wanted", wholes(8, 10, 1, 8).best(0), 80);
        due("the dearest", wholes(8, 999, 999, 4).best(0), 8 * 999);
        due("PRICE below OVER", wholes(3, 1, 10, 2).best(0), 12);
        at("III: how many PLANS bring most, where what is over counts too");
        bruteForce();
        at("III: the dearest PLAN of all");
        CutFloor y = hall("cut 0 to 8 1;cut 1 to 5 2;cut 2 to 5 3");
        y.put(3, 0, 999);
        y.put(3, 1, 999);
        y.put(3, 2, 8);
        y.carcasses(1, 8);
        due("1600 pieces", y.best(0), 1600 * 999);
        due("1600 pieces", y.made(3, 0), 1600);
        at("III: BEST are PLANS that bring most");
        CutFloor z = hall("cut 0 to 1 1;cut 0 to 1 2");
        z.put(1, 1, 3);
        z.put(2, 1, 4);
        z.carcasses(0, 3);
        due("one alone", z.best(1), 1);
        z.put(1, 1, 4);
        due("two for each", z.best(1), 8);
        z.put(0, 1, 4);
        due("three for each", z.best(1), 27);
        at("III: the FIRST of them as a row of CUTTINGS by carcasses, lower ones ahead");
        due("first", z.plan(0), 0);
        z.put(0, 1, 0);
        due("first", z.plan(2), 1);
        z.put(1, 0, 5);
        z.put(1, 2, 1);
        due("once the first is enough", z.plan(0) * 100 + z.plan(1) * 10 + z.plan(2), 111);
        z.put(1, 1, 3);
        due("then only one of them", z.plan(0) * 100 + z.plan(1) * 10 + z.plan(2), 122);
    }

    /** Three carcasses with 0, 1, 2 or 3 of PART 1, and one of PART 2 with it: all PLANS are gone through here. */
    private static void bruteForce() {
        int[] ones = {0, 1, 2, 3};
        int[] twos = {0, 1, 0, 1};
        for (int order = 0; order <= 8; order++) {
            CutFloor x = hall("cut 0 to 1 1 and 1 2;cut 0 to 2 1;cut 0 to 3 1 and 1 2");
            x.carcasses(0, 3);
            x.put(0, 1, 4);
            x.put(2, 1, 3);
            x.put(2, 0, 9);
            for (int over = 0; over < 4; over++) {
                for (int twosWanted = 0; twosWanted < 3; twosWanted++) {
                    x.put(1, 0, 3);
                    x.put(1, 1, over);
                    x.put(1, 2, order);
                    x.put(2, 2, twosWanted);
                    int most = -1;
                    int plans = 0;
                    int first = 0;
                    for (int plan = 0; plan < 64; plan++) {
                        int[] row = {plan / 16, plan / 4 % 4, plan % 4};
                        int wholes = 0;
                        int n = 0;
                        int m = 0;
                        for (int cutting : row) {
                            wholes += cutting == 0 ? 1 : 0;
                            n += ones[cutting];
                            m += twos[cutting];
                        }
                        int brings = 4 * wholes + 3 * Math.min(n, order) + over * Math.max(0, n - order)
                                + 9 * Math.min(m, twosWanted) + 3 * Math.max(0, m - twosWanted);
                        if (brings > most) {
                            plans = 0;
                            first = row[0] * 100 + row[1] * 10 + row[2];
                        }
                        if (brings >= most) plans++;
                        most = Math.max(most, brings);
                    }
                    String which = "ORDER " + order + ", OVER " + over + ", " + twosWanted + " of 2";
                    due("BEST by " + which, x.best(0), most);
                    due("PLANS by " + which, x.best(1), plans);
                    due("FIRST by " + which, x.plan(0) * 100 + x.plan(1) * 10 + x.plan(2), first);
                }
            }
        }
    }

    /** 50, 40 and 5 CUTTINGS: three, two and one of them have a thousand millions of PLANS. */
    private static void countedPlans() {
        at("III: how many PLANS do: 1,000,000,000 at most");
        CutFloor x = hall("cut0to1 1;cut0to1 1;cut0to1 1;cut0to1 1if not class=1;" + times("cut0to1 1if class=0;", 3)
                + times("cut1to1 2if class<2;", 6) + "cut2to1 3if class=1");
        due("50", x.cuttings(0), 50);
        due("40", x.cuttings(1), 40);
        due("5", x.cuttings(2), 5);
        x.carcasses(0, 3);
        x.carcasses(1, 2);
        due("below", x.best(1), 200_000_000);
        x.carcasses(2, 1);
        due("just that many", x.best(1), 1_000_000_000);
        x.carcasses(2, 2);
        due("five times as many", x.best(1), 1_000_000_000);
        x.carcasses(2, 3);
        due("what would wrap around", x.best(1), 1_000_000_000);
        due("but they bring", x.best(0), 0);
        CutFloor y = hall(justSixtyFour());
        y.carcasses(0, 8);
        due("64 to the eighth", y.best(1), 1_000_000_000);
        y.put(0, 1, 1);
        due("all but one", y.best(1), 1);
        y.put(0, 0, 1);
        y.put(0, 2, 8);
        y.put(0, 1, 0);
        due("all but one, by ORDER", y.best(1), 1);
        y.put(0, 2, 7);
        due("one is free", y.best(1), 8 * 63 + 1);
    }

    private static void valueAndWorth() {
        at("III: the VALUE of a CLASS: with one carcass more of it");
        CutFloor x = wholes(0, 10, 1, 3);
        int[] values = {10, 10, 10, 1, 1, 1, 1, 1, NONE};
        for (int n = 0; n <= 8; n++) {
            x.carcasses(0, n);
            due("of " + n, x.value(0), values[n]);
            due("of another CLASS", x.value(2), values[n]);
        }
        at("III: the WORTH of a PART: with its ORDER one greater");
        CutFloor y = wholes(4, 10, 1, 0);
        int[] worths = {9, 9, 9, 9, 0, 0, 0, 0, NONE};
        for (int order = 0; order <= 8; order++) {
            y.put(0, 2, order);
            due("of ORDER " + order, y.worth(0), worths[order]);
            due("the ORDER stands", y.put(0, 2, order), order);
        }
        y.put(0, 2, 3);
        y.put(0, 0, 0);
        due("below 0", y.worth(0), -1);
        due("a PART that never comes", y.worth(9), 0);
        at("III: WORTH up to as many as there can be");
        CutFloor z = hall("cut 0 to 4 1 and 1 2");
        z.put(1, 0, 5);
        z.put(2, 0, 7);
        z.put(2, 2, 1);
        z.carcasses(0, 1);
        z.carcasses(2, 1);
        for (int order = 0; order < 8; order++) {
            z.put(1, 2, order);
            due("of ORDER " + order, z.worth(1), 5);
        }
        z.carcasses(2, 0);
        for (int order = 0; order < 8; order++) {
            z.put(1, 2, order);
            due("of ORDER " + order, z.worth(1), order < 4 ? 5 : 0);
        }
        CutFloor three = hall("cut 0 to 3 1 if class=1");
        three.put(1, 0, 5);
        three.carcasses(1, 3);
        for (int order = 0; order < 8; order++) {
            three.put(1, 2, order);
            due("of ORDER " + order, three.worth(1), 5);
        }
    }

    private static void change() {
        at("III: CHANGE, if the last carcass of a CLASS is short");
        // only one of the first two CUTTINGS is dear: whoever is first takes it
        CutFloor x = hall("cut 0 to 1 1;cut 0 to 1 2");
        x.put(1, 0, 9);
        x.put(1, 2, 1);
        x.put(2, 0, 9);
        x.put(2, 2, 2);
        x.carcasses(0, 1);
        x.carcasses(1, 1);
        x.carcasses(2, 1);
        due("the FIRST", x.plan(0) * 100 + x.plan(1) * 10 + x.plan(2), 122);
        for (int cls = 0; cls < 3; cls++) {
            due("nobody must change", x.change(cls, 0), 0);
            due("two bring", x.change(cls, 1), 18);
        }
        x.put(1, 0, 10);
        x.put(2, 2, 1);
        due("the FIRST", x.plan(0) * 100 + x.plan(1) * 10 + x.plan(2), 12);
        due("nobody needs the last", x.change(2, 0), 1);
        due("then two bring", x.change(2, 1), 19);
        due("the idle one is short", x.change(0, 0), 0);
        due("then two bring", x.change(0, 1), 19);
        x.carcasses(0, 2);
        due("the FIRST", x.plan(0) * 1000 + x.plan(1) * 100 + x.plan(2) * 10 + x.plan(3), 12);
        due("the last of CLASS 0 is idle too", x.change(0, 0), 0);
        at("III: CHANGE, if there are no others");
        x.carcasses(0, 0);
        x.carcasses(1, 0);
        due("nobody", x.change(2, 0), 0);
        due("nothing", x.change(2, 1), 0);
        x.carcasses(2, 0);
        due("none is there", x.change(2, 0), NONE);
        at("III: CHANGE with eight carcasses");
        // seven are wanted whole at 5 each and one cut at 6: the last of CLASS 0 is the one that is cut
        CutFloor y = hall("cut 0 to 1 1");
        y.put(0, 0, 5);
        y.put(0, 2, 7);
        y.put(1, 0, 6);
        y.put(1, 2, 1);
        y.carcasses(0, 8);
        due("the last is cut", y.plan(6) * 10 + y.plan(7), 1);
        due("one of seven must take its place", y.change(0, 0), 1);
        due("seven bring", y.change(0, 1), 36);
        // all eight are cut; without the last the ORDERS of seven are as they were
        y.put(1, 2, 8);
        due("all are cut", y.plan(0) * 10 + y.plan(7), 11);
        due("seven stay", y.change(0, 0), 0);
        due("seven bring", y.change(0, 1), 42);
    }

    private static void told() {
        at("III: a PLAN is TOLD: a CUTTING for each carcass 0 .. 7, 0 at first");
        CutFloor x = hall("cut 0 to 1 1;cut 1 to 1 2");
        for (int i = 0; i < 8; i++) due("at first", x.give(i, 2), 0);
        for (int i = 0; i < 8; i++) due("then", x.give(i, 0), 2);
        due("carcass 8", x.give(8, 0), -1);
        due("carcass -1", x.give(-1, 0), -1);
        at("III: one that is not there counts as 0");
        x.put(0, 1, 100);
        x.put(2, 1, 7);
        x.carcasses(0, 1);
        x.give(0, 2);
        due("the last that is there", x.given(0), 7);
        x.give(0, 3);
        due("one beyond it", x.given(0), 100);
        due("it is the FIRST's then", x.given(2), 0);
        x.give(0, 63);
        due("the most that can be told", x.given(0), 100);
        x.give(1, 2);
        due("a carcass that is not there", x.given(0), 100);
        due("a carcass that is not there", x.given(2), 0);
        x.carcasses(0, 2);
        due("now it is there", x.given(0), 107);
        x.give(7, 2);
        x.carcasses(0, 8);
        due("the eighth", x.given(0), 6 * 100 + 14);
        x.put(0, 0, 1000 - 1);
        x.put(0, 2, 4);
        due("four at their PRICE, two OVER", x.given(0), 4 * 999 + 2 * 100 + 14);
        due("none is wanting", x.given(3), 0);
        x.put(0, 2, 8);
        due("two carcasses are wanting", x.given(3), 2);
        CutFloor y = hall(justSixtyFour());
        y.carcasses(0, 1);
        y.put(2, 1, 7);
        y.give(0, 63);
        due("the 64th CUTTING", y.given(0), 7);
    }

    private static void tasks() {
        at("III: the PARTS that are cut by it, in all, times its MINUTES (by their CLASSES)");
        CutFloor x = hall("cut 0 to 3 1;cut 1 to 2 2;minutes 7;minutes class+1 if way=1");
        x.put(2, 1, 1);
        x.carcasses(0, 2);
        x.carcasses(2, 1);
        due("three carcasses", x.task(0), 21);
        due("six of class 0, three of class 2", x.task(1), 6 + 9);
        due("all", x.task(NONE), 36);
        CutFloor most = hall("cut 0 to 8 1;cut 1 to 5 2;cut 2 to 5 3;minutes 60");
        most.put(3, 1, 1);
        most.carcasses(0, 8);
        due("the longest there can be", most.task(2), 8 * 40 * 60);
        at("III: the SKILL by the lowest CLASS for which it is gone");
        CutFloor y = hall("cut 0 to 1 1 if class>0;skill class");
        y.put(1, 1, 1);
        y.carcasses(0, 1);
        y.carcasses(1, 1);
        y.carcasses(2, 1);
        y.man(4);
        due("not by class 2", y.share(0), NONE);
        y.skills(0, 1);
        due("not by class 0", y.share(0), NONE);
        y.skills(0, 2);
        due("by class 1", y.share(0), 0);
        y.carcasses(1, 0);
        due("not by class 1", y.share(0), NONE);
        y.skills(0, 4);
        due("by class 2", y.share(0), 0);
        at("III: the longest of them is shortest");
        CutFloor z = fiveTasks("minutes way+1");
        z.man(1);
        due("one for all", z.share(NONE), 15);
        z.man(1);
        due("two", z.share(NONE), 8);
        z.man(1);
        due("three", z.share(NONE), 5);
        z.man(1);
        due("four", z.share(NONE), 5);
        at("III: the FIRST as a row of men by TASKS, lower ones ahead");
        // 1, 2, 3, 4, 5 so that none has more than 5: 1+2, 3, 4, 5 or 1+3, 2 or 1+4, 2+3; lowest 0 0 1 2 3
        int[] row = {0, 0, 1, 2, 3};
        for (int way = 0; way < 5; way++) due("way " + way, z.share(way), row[way]);
    }

    /** One carcass, cut by WAY 0 to PARTS 1 .. 4, each of which is cut by one WAY more. */
    private static CutFloor fiveTasks(String clauses) {
        CutFloor x = hall("cut 0 to 1 1 and 1 2 and 1 3 and 1 4;cut 1 to 1 9;cut 2 to 1 9;cut 3 to 1 9;cut 4 to 1 9;" + clauses);
        x.put(9, 1, 1);
        x.carcasses(0, 1);
        return x;
    }

    private static void tenTasks() {
        at("III: 10 TASKS at most");
        // nine WAYS for class 0, a tenth for class 1, an eleventh for class 2
        StringBuilder text = new StringBuilder("cut 0 to 2 1");
        for (int part = 1; part < 9; part++) text.append(";cut ").append(part).append(" to 1 ").append(part + 1);
        CutFloor x = hall(text + ";cut 0 to 5 9 if class=1;cut 0 to 6 9 if class=2");
        x.put(9, 1, 1);
        x.man(1);
        x.carcasses(0, 1);
        x.carcasses(1, 1);
        due("ten", x.share(NONE), 1 + 8 * 2 + 1);
        due("the tenth", x.share(9), 0);
        x.carcasses(2, 1);
        due("eleven", x.share(NONE), NONE);
        due("eleven", x.share(9), NONE);
        due("each is told", x.task(10), 1);
        x.carcasses(1, 0);
        due("ten again", x.share(NONE), 1 + 8 * 2 + 1);
        due("the eleventh WAY", x.share(10), 0);
        due("the tenth WAY is not gone", x.share(9), NONE);
    }

    // Terms IV

    private static void boxNumbers() {
        int[] least = {1, 0, 0, 0, 0, 0};
        int[] most = {99, 100, 99, 3, 23, 255};
        String[] names = {"WEIGHT 1 .. 99", "LEAN 0 .. 100", "a DAY 0 .. 99", "a TABLE 0 .. 3", "an HOUR 0 .. 23",
            "CARCASSES (bits 0 .. 7)"};
        for (int what = 0; what < 6; what++) {
            at("IV: BOXES: " + names[what]);
            CutFloor x = new CutFloor();
            int[] b = {50, 50, 50, 2, 12, 100};
            b[what] = least[what] - 1;
            due("below", x.box(b[0], b[1], b[2], b[3], b[4], b[5]), -1);
            b[what] = most[what] + 1;
            due("beyond", x.box(b[0], b[1], b[2], b[3], b[4], b[5]), -1);
            b[what] = least[what];
            due("least", x.box(b[0], b[1], b[2], b[3], b[4], b[5]), 0);
            b[what] = most[what];
            due("most", x.box(b[0], b[1], b[2], b[3], b[4], b[5]), 1);
            due("least", x.of(0, what), least[what]);
            due("most", x.of(1, what), most[what]);
        }
        at("IV: BOXES, 16 at most");
        CutFloor x = new CutFloor();
        for (int i = 0; i < 16; i++) due("box", x.box(1, 1, 1, 1, 1, 1), i);
        due("a seventeenth", x.box(1, 1, 1, 1, 1, 1), -5);
        x.send(16, 1, 0, 0);
        due("none is there", x.count(4), 0);
        due("but they are kept", x.box(1, 1, 1, 1, 1, 1), -5);
        due("sixteen", x.count(5), 16);
    }

    private static void mixes() {
        CutFloor x = new CutFloor();
        x.box(10, 50, 0, 0, 0, 0);
        x.box(20, 80, 0, 0, 0, 0);
        at("IV: a MIX: some that weigh from a to b together");
        due("just a", x.mix(30, 31, 0, 1), 3);
        due("below a", x.mix(31, 31, 0, 2), 0);
        due("just b", x.mix(29, 30, 0, 1), 3);
        due("beyond b", x.mix(21, 29, 0, 2), 0);
        due("one is some", x.mix(20, 20, 0, 1), 2);
        due("none are not some", x.mix(1, 9, 0, 2), 0);
        due("all", x.mix(1, 1584, 0, 2), 3);
        at("IV: a MIX: LEAN at least as told in the mean");
        due("(500 and 1600) / 30 is 70", x.mix(30, 30, 70, 0), 0);
        due("71 is more", x.mix(30, 30, 71, 2), 0);
        due("50", x.mix(10, 10, 50, 2), 1);
        due("51", x.mix(10, 10, 51, 2), 0);
        due("one with too little may be mixed", x.mix(1, 1584, 51, 2), 2);
        at("IV: GIVEN AWAY is what is LEAN beyond");
        due("at 69", x.mix(30, 30, 69, 0), 30);
        due("at 0", x.mix(30, 30, 0, 0), 2100);
        at("IV: the least, then the lowest as bits");
        due("the least", x.mix(1, 1584, 40, 1), 1);
        x.box(20, 80, 0, 0, 0, 0);
        x.box(10, 50, 0, 0, 0, 0);
        due("of alike ones the lower", x.mix(1, 1584, 50, 1), 1);
        due("of alike ones the lower", x.mix(20, 20, 80, 1), 2);
        due("two and two are four", x.mix(30, 30, 70, 2), 4);
        due("the lowest of four", x.mix(30, 30, 70, 1), 3);
        at("IV: a MIX: of those that are there");
        x.send(1, 0, 0, 0);
        due("without the first", x.mix(30, 30, 70, 1), 10);
        due("three are there", x.mix(1, 1584, 0, 2), 7);
        x.send(16, 0, 0, 0);
        due("none is there", x.mix(1, 1584, 0, 2), 0);
        at("IV: a MIX of all sixteen");
        CutFloor y = new CutFloor();
        for (int i = 0; i < 16; i++) y.box(99, i, 0, 0, 0, 0);
        due("together", y.mix(1584, 1584, 7, 1), 65535);
        due("the mean is 7 and a half", y.mix(1584, 1584, 8, 2), 0);
        due("away", y.mix(1584, 1584, 7, 0), 99 * 120 - 7 * 1584);
        due("one of them", y.mix(99, 99, 15, 1), 1 << 15);
        due("each one", y.mix(99, 99, 0, 2), 16);
        due("any two", y.mix(198, 198, 0, 2), 120);
        due("any one or two", y.mix(1, 198, 0, 2), 136);
        due("all but one or none", y.mix(1485, 1584, 0, 2), 17);
        due("every one", y.mix(1, 1584, 0, 2), 65535);
    }

    private static void sent() {
        CutFloor x = new CutFloor();
        for (int day : new int[] {10, 12, 10, 11, 20}) x.box(1, 1, day, 0, 0, 1);
        at("IV: SENT: from least to most DAYS old");
        due("one too young", x.send(16, 20, 11, 99), 0);
        due("one too old", x.send(16, 20, 1, 7), 0);
        due("just most", x.send(16, 20, 1, 8), 1 << 1);
        due("just least", x.send(16, 20, 10, 11), 1 << 0 | 1 << 2);
        due("made on the day", x.send(16, 20, 0, 0), 1 << 4);
        at("IV: SENT: they are not there any more");
        due("sent", x.of(0, 6), 0);
        due("not sent again", x.send(16, 20, 10, 10), 0);
        due("the one that is left", x.send(16, 20, 0, 99), 1 << 3);
        at("IV: SENT: not made yet on that DAY");
        x.again(4);
        due("a day ahead", x.send(16, 19, 0, 99), 0);
        due("the day", x.send(16, 20, 0, 99), 1 << 4);
        at("IV: SENT: made first ones first, of alike ones the lower");
        CutFloor y = new CutFloor();
        for (int day : new int[] {5, 4, 5, 3, 4}) y.box(1, 1, day, 0, 0, 1);
        due("the first", y.send(1, 9, 0, 99), 1 << 3);
        due("of alike ones the lower", y.send(1, 9, 0, 99), 1 << 1);
        due("two", y.send(2, 9, 0, 99), 1 << 4 | 1 << 0);
        at("IV: SENT: if there are fewer, all such");
        due("one of sixteen", y.send(16, 9, 0, 99), 1 << 2);
        due("none", y.send(16, 9, 0, 99), 0);
        at("IV: SENT: the last DAY of all");
        CutFloor z = new CutFloor();
        z.box(1, 1, 0, 0, 0, 1);
        z.box(1, 1, 99, 0, 0, 1);
        due("99 days old", z.send(2, 99, 99, 99), 1);
        due("0 days old", z.send(2, 99, 0, 0), 2);
    }

    private static void recalled() {
        CutFloor x = new CutFloor();
        x.box(1, 1, 5, 1, 3, 1);
        x.box(1, 1, 5, 1, 3, 0);
        x.box(1, 1, 6, 1, 3, 0);
        x.box(1, 1, 5, 2, 3, 0);
        x.box(1, 1, 5, 1, 4, 0);
        x.box(1, 1, 9, 0, 0, 128 | 1);
        x.box(1, 1, 8, 0, 0, 128);
        at("IV: RECALLED: in ROUND 0 BOXES of any of these");
        due("of carcass 0", x.recall(1, 0), 0);
        due("of carcasses 0 and 7", x.recall(129, 6), 0);
        due("of carcass 7", x.recall(128, 6), 0);
        due("of none", x.recall(0, NONE), 0);
        due("of one that is in no BOX", x.recall(64, NONE), 0);
        at("IV: RECALLED: on the DAY, at the TABLE, in the HOUR of a RECALLED one");
        due("all three alike", x.recall(1, 1), 1);
        due("another DAY", x.recall(1, 2), NONE);
        due("another TABLE", x.recall(1, 3), NONE);
        due("another HOUR", x.recall(1, 4), NONE);
        at("IV: RECALLED: or have a carcass with one in common");
        due("at once", x.recall(1, 5), 0);
        due("behind it", x.recall(1, 6), 1);
        due("all", x.recall(1, NONE), 1 << 0 | 1 << 1 | 1 << 5 | 1 << 6);
        due("back to the first", x.recall(128, 0), 1);
        due("and beyond", x.recall(128, 1), 2);
        at("IV: RECALLED: sent ones too");
        x.send(16, 9, 0, 99);
        due("all", x.recall(1, NONE), 1 << 0 | 1 << 1 | 1 << 5 | 1 << 6);
        at("IV: RECALLED: the farthest ROUND of sixteen BOXES");
        // by turns the next has the same place and time, and the next a carcass in common
        CutFloor y = new CutFloor();
        for (int i = 0; i < 16; i++) y.box(1, 1, i / 2, 0, 0, i < 15 ? 1 << (i + 1) / 2 : 0);
        for (int i = 0; i < 16; i++) due("round of " + i, y.recall(1, i), i);
        due("all", y.recall(1, NONE), 65535);
    }

    private static void drift() {
        at("IV: YIELDS, 40 at most");
        CutFloor x = new CutFloor();
        for (int i = 1; i <= 40; i++) due("a yield", x.yields(999, 0), i);
        due("one more", x.yields(999, 0), -5);
        due("forty", x.count(6), 40);
        due("the sum of all", x.drift(0, 9999, 1), 40 * 999);
        due("the eleventh is beyond 9999", x.drift(0, 9999, 0), 10);
        at("IV: told and got, 0 .. 999 each");
        CutFloor y = new CutFloor();
        due("-1", y.yields(-1, 0), -1);
        due("-1", y.yields(0, -1), -1);
        due("1000", y.yields(1000, 0), -1);
        due("1000", y.yields(0, 1000), -1);
        due("999", y.yields(999, 999), 1);
        due("0", y.yields(0, 0), 2);
        at("IV: DRIFT: a sum, never below 0");
        CutFloor z = new CutFloor();
        z.yields(0, 999);
        z.yields(5, 0);
        z.yields(1, 3);
        z.yields(4, 0);
        due("from 0 on", z.drift(0, 4, 0), 1);
        due("the greatest", z.drift(0, 4, 1), 7);
        at("IV: DRIFT: the first behind which it is above LIMIT");
        due("at it is not above", z.drift(0, 5, 0), 3);
        due("never", z.drift(0, 7, 0), NONE);
        due("above 0", z.drift(0, 0, 0), 1);
        at("IV: DRIFT: less ALLOW");
        due("of each", z.drift(1, 3, 0), 1);
        due("of each", z.drift(1, 4, 0), NONE);
        due("all is allowed", z.drift(5, 0, 0), NONE);
        due("all is allowed", z.drift(5, 0, 1), 0);
        due("all but one", z.drift(4, 0, 1), 1);
    }

    private static void weeks() {
        at("IV: a WEEK: SEED 0 .. 1,000,000");
        CutFloor x = new CutFloor();
        due("-1", x.week(-1), -1);
        due("1,000,001", x.week(1_000_001), -1);
        due("0", x.week(0), 0);
        due("1,000,000", x.week(1_000_000), 0);
        at("IV: a WEEK: a DRAW of one more than its CARCASSES");
        for (int cls = 0; cls < 3; cls++) due("none can come", x.came(4, cls), 0);
        x.carcasses(0, 2);
        x.carcasses(2, 6);
        boolean[] came = new boolean[7];
        int twos = 0;
        for (int seed = 0; seed < 12; seed++) {
            x.week(seed);
            for (int day = 0; day < 5; day++) {
                came[x.came(day, 2)] = true;
                due("none of class 1", x.came(day, 1), 0);
                if (x.came(day, 0) == 2) twos++;
            }
        }
        for (int n = 0; n <= 6; n++) due(n + " of 6 come once", came[n] ? 1 : 0, 1);
        due("both of 2 come at times", twos > 0 ? 1 : 0, 1);
        at("IV: a DRAW: modulo 1,000,003");
        // 12345; then 12345 times 1103 and 12345 = 13,628,880 less 13 times 1,000,003 = 628,841
        CutFloor y = new CutFloor();
        y.carcasses(0, 7);
        y.week(0);
        due("12345 modulo 8", y.came(0, 0), 1);
        y.carcasses(1, 1);
        y.week(0);
        due("628,841 modulo 2", y.came(0, 1), 1);
        // 1,000,000 times 1103 and 12345 is 9036 more than a multiple of 1,000,003
        y.week(1_000_000);
        due("9036 modulo 8", y.came(0, 0), 4);
        at("IV: a WEEK: for 5 DAYS, CLASS by CLASS");
        long s = 77;
        y.week(77);
        for (int i = 0; i < 15; i++) {
            s = (s * 1103 + 12345) % 1_000_003;
            due("draw " + i, y.came(i / 3, i % 3), (int) (s % new int[] {8, 2, 1}[i % 3]));
        }
        at("IV: a WEEK: BEST of each DAY together, ORDERS anew each");
        CutFloor z = wholes(1, 10, 1, 1);
        int days = 0;
        int brings = z.week(5);
        for (int day = 0; day < 5; day++) days += z.came(day, 0);
        due("each one is wanted", brings, 10 * days);
        at("IV: a WEEK: DAY as it is");
        CutFloor w = hall("cut 0 to 2 1 if day=3");
        w.put(1, 1, 5);
        w.carcasses(0, 4);
        due("another day", w.week(9), 0);
        w.terms(0, 3);
        brings = w.week(9);
        int all = 0;
        for (int day = 0; day < 5; day++) all += w.came(day, 0);
        due("that day", brings, 10 * all);
    }

    private static void boxRows() {
        at("IV: a ROW: by sixes; one within which the TAPE ends is SPOILT");
        String good = bytes(9, 8, 7, 3, 6, 5);
        for (int more = 0; more < 6; more++) {
            CutFloor x = new CutFloor();
            feedText(x, good + good.substring(0, more));
            due("with " + more + " bytes more", x.row(), 1);
            due("spoilt", x.spoilt(), more == 0 ? 0 : 1);
            int[] want = {9, 8, 7, 3, 6, 5, 1};
            for (int what = 0; what < 7; what++) due("fact " + what, x.of(0, what), want[what]);
        }
        at("IV: a ROW: one that can't be is SPOILT");
        int[] least = {1, 0, 0, 0, 0, 0};
        int[] most = {99, 100, 99, 3, 23, 255};
        for (int what = 0; what < 6; what++) {
            CutFloor x = new CutFloor();
            int[] b = {9, 8, 7, 3, 6, 5};
            b[what] = least[what];
            String row = bytes(b);
            b[what] = most[what];
            row += bytes(b);
            b[what] = 255;
            row += bytes(b);
            b[what] = Math.min(255, most[what] + 1);
            row += bytes(b);
            b[what] = what == 0 ? 0 : Math.min(255, most[what] + 1);
            row += bytes(b);
            feedText(x, row);
            due("with fact " + what, x.row(), what == 5 ? 5 : 2);
            due("spoilt", x.spoilt(), what == 5 ? 0 : 3);
        }
        at("IV: a ROW: one for which there is no room is SPOILT");
        CutFloor x = new CutFloor();
        feedText(x, times(good, 17));
        due("seventeen", x.row(), 16);
        due("spoilt", x.spoilt(), 1);
        feedText(x, good);
        due("none came", x.row(), 0);
        due("not REFUSED", x.status(), 0);
        at("IV: a ROW of a full TAPE");
        CutFloor y = new CutFloor();
        feedText(y, times(bytes(0, 0, 0, 0, 0, 0), 51) + times(good, 15) + good.substring(0, 4));
        due("fifteen at its end", y.row(), 15);
        due("spoilt", y.spoilt(), 52);
    }

    private static void images() {
        at("IV: IMAGES 0, 1");
        CutFloor x = new CutFloor();
        for (int k = 0; k < 2; k++) due("kept", x.image(k), 0);
        due("2", x.image(2), -1);
        due("-1", x.image(-1), -1);
        at("IV: BACK to one all that it keeps is as it was then (IMAGES stay)");
        x.carcasses(0, 1);
        due("back to 0", x.back(0), 0);
        due("nothing was there", x.count(0), 0);
        x.carcasses(0, 2);
        x.image(0);
        due("back to 1", x.back(1), 0);
        due("nothing was there", x.count(0), 0);
        due("back to 0", x.back(0), 0);
        due("two", x.count(0), 2);
        x.carcasses(0, 3);
        due("back again", x.back(0), 0);
        due("two", x.count(0), 2);
        at("IV: IMAGES keep all but the TAPE, FAULT, SPOILT, the latest WEEK");
        CutFloor y = new CutFloor();
        y.image(0);
        read(y, "cut 1");
        feedText(y, "1234567");
        y.row();
        y.carcasses(0, 8);
        y.week(3);
        y.feed(1, 2, 3, 4, 5);
        int came = y.came(0, 0);
        y.back(0);
        due("TAPE", y.count(8), 20);
        due("FAULT", y.fault(), 5);
        due("SPOILT", y.spoilt(), 2);
        due("WEEK", y.came(0, 0), came);
        due("but the CARCASSES", y.count(0), 0);
    }

    private static void constants() {
        at("The constants: NONE = -1");
        due("NONE", CutFloor.NONE, -1);
    }

    private static void lastCall() {
        at("What it is: at most 512 calls");
        CutFloor x = new CutFloor();
        for (int i = 0; i < 510; i++) x.box(0, 0, 0, 0, 0, 0);
        due("the 511th", x.count(9), 510);
        due("the 512th", x.status(), -1);
        CutFloor y = wholes(8, 999, 0, 8);
        for (int i = 4; i < 511; i++) y.feed(i, i, i, i, i);
        due("the 512th", y.best(0), 8 * 999);
    }

    public static void main(String[] args) {
        classes();
        carcassesInAll();
        parts();
        weights();
        market();
        men();
        termsOfTheDay();
        refusedInOrder();
        tape();
        tokens();
        clauseLimits();
        sumLimits();
        bracketLimits();
        pieces();
        faults();
        waysByOrder();
        broken();
        holding();
        minutesAndSkill();
        waste();
        cuttings();
        plans();
        countedPlans();
        valueAndWorth();
        change();
        told();
        tasks();
        tenTasks();
        boxNumbers();
        mixes();
        sent();
        recalled();
        drift();
        weeks();
        boxRows();
        images();
        constants();
        lastCall();
        finish("sentences of the Terms");
    }
}
