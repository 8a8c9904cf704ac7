/** Each promise by hand: ordinary inputs, the edges that the document names, wrong inputs. */
public final class PromisesTest extends Dues {
    private static void newObject() {
        CutFloor x = new CutFloor();
        due("NONE", CutFloor.NONE, -1);
        for (int what = 0; what <= 13; what++) due("count " + what, x.count(what), 0);
        due("status", x.status(), 0);
        due("fault", x.fault(), NONE);
        due("spoilt", x.spoilt(), 0);
        due("came", x.came(0, 0), NONE);
        due("way", x.way(0, 0), NONE);
        due("goes", x.goes(0, 0, 0), NOTHING);
        for (int cls = 0; cls < 3; cls++) due("cuttings", x.cuttings(cls), 1);
        due("best", x.best(0), 0);
        due("plans", x.best(1), 1);
        due("plan", x.plan(0), NONE);
        due("share", x.share(NONE), 0);
        due("task", x.task(NONE), 0);
        due("mix", x.mix(1, 1584, 0, 2), 0);
        due("recall", x.recall(255, NONE), 0);
        due("back", x.back(0), -2);
        due("loss", x.terms(1, 5), 5);
        due("day", x.terms(0, 0), 0);
    }

    private static void carcasses() {
        CutFloor x = new CutFloor();
        due("first", x.carcasses(0, 3), 0);
        due("again", x.carcasses(0, 2), 3);
        due("other", x.carcasses(2, 6), 0);
        due("count", x.count(0), 8);
        due("too many", x.carcasses(1, 1), -3);
        due("stays", x.carcasses(1, 0), 0);
        due("more of one", x.carcasses(0, 3), -3);
        due("the same", x.carcasses(0, 2), 2);
        due("fewer", x.carcasses(2, 0), 6);
        due("class 3", x.carcasses(3, 0), -1);
        due("class -1", x.carcasses(-1, 0), -1);
        due("nine", x.carcasses(1, 9), -1);
        due("below", x.carcasses(1, -1), -1);
        due("extremes", x.carcasses(MIN, MAX), -1);
        due("eight in one", x.carcasses(0, 8), 2);
        due("count", x.count(0), 8);
    }

    private static void weighs() {
        CutFloor x = hall("cut 0 to 1 1 if weight > 10");
        due("goes", x.goes(0, 1, 0), 0);
        due("first", x.weighs(0, 1, 9999), 0);
        due("goes", x.goes(0, 1, 0), 1);
        due("other class", x.goes(0, 0, 0), 0);
        due("was", x.weighs(0, 1, 0), 9999);
        due("10000", x.weighs(0, 1, 10000), -1);
        due("below", x.weighs(0, 1, -1), -1);
        due("part", x.weighs(10, 0, 0), -1);
        due("part", x.weighs(-1, 0, 0), -1);
        due("class", x.weighs(0, 3, 0), -1);
        due("class", x.weighs(0, -1, 0), -1);
        due("stays", x.weighs(9, 2, 7), 0);
        due("stays", x.weighs(9, 2, 7), 7);
    }

    private static void put() {
        CutFloor x = new CutFloor();
        for (int what = 0; what < 3; what++) {
            int most = what == 2 ? 8 : 999;
            due("first", x.put(9, what, most), 0);
            due("was", x.put(9, what, 0), most);
            due("beyond", x.put(9, what, most + 1), -1);
            due("below", x.put(9, what, -1), -1);
        }
        due("what", x.put(0, 3, 0), -1);
        due("what", x.put(0, -1, 0), -1);
        due("part", x.put(10, 0, 0), -1);
        due("part", x.put(-1, 0, 0), -1);
        for (int part = 0; part < 5; part++) due("orders", x.put(part, 2, 1), 0);
        due("count", x.count(7), 5);
        due("sixth", x.put(5, 2, 1), -3);
        due("sixth of none", x.put(5, 2, 0), 0);
        due("price is free", x.put(5, 0, 10), 0);
        due("one of them", x.put(4, 2, 8), 1);
        due("one less", x.put(4, 2, 0), 8);
        due("now there is room", x.put(5, 2, 3), 0);
        due("sixth by a number that can't be", x.put(6, 2, 9), -1);
    }

    private static void men() {
        CutFloor x = new CutFloor();
        due("16", x.man(16), -1);
        due("-1", x.man(-1), -1);
        for (int i = 0; i < 4; i++) due("man", x.man(i * 5), i);
        due("fifth", x.man(0), -5);
        due("a number first", x.man(16), -1);
        due("count", x.count(3), 4);
        at("promise 6");
        for (int i = 0; i < 4; i++) due("skills", x.skills(i, 15 - i), i * 5);
        due("were", x.skills(3, 0), 12);
        due("16", x.skills(0, 16), -1);
        due("-1", x.skills(0, -1), -1);
        due("no man", x.skills(4, 0), -2);
        due("no man", new CutFloor().skills(0, 0), -2);
        due("a number first", x.skills(4, 16), -1);
    }

    private static void terms() {
        CutFloor x = new CutFloor();
        due("day", x.terms(0, 99), 0);
        due("day was", x.terms(0, 1), 99);
        due("loss", x.terms(1, 100), 5);
        due("loss was", x.terms(1, 0), 100);
        due("day 100", x.terms(0, 100), -1);
        due("loss 101", x.terms(1, 101), -1);
        due("below", x.terms(0, -1), -1);
        due("below", x.terms(1, -1), -1);
        due("what", x.terms(2, 0), -1);
        due("what", x.terms(-1, 0), -1);
        CutFloor y = hall("cut 0 to 1 1 if day = 7");
        due("cuttings", y.cuttings(0), 1);
        y.terms(0, 7);
        due("cuttings by day", y.cuttings(0), 2);
    }

    private static void feedAndEnd() {
        CutFloor x = new CutFloor();
        for (int i = 1; i <= 20; i++) due("feed", x.feed(0x05640a03, 0x17ff0a0b, MIN, MAX, -1), 20 * i);
        due("full", x.feed(0, 0, 0, 0, 0), NONE);
        due("count", x.count(8), 400);
        due("status", x.status(), 0);
        at("promise 9");
        due("401", x.end(401), NONE);
        due("-1", x.end(-1), NONE);
        due("381", x.end(381), 381);
        due("no room for twenty", x.feed(0, 0, 0, 0, 0), NONE);
        due("380", x.end(380), 380);
        due("room for twenty", x.feed(0, 0, 0, 0, 0), 400);
        due("6", x.end(6), 6);
        due("7", x.end(7), NONE);
        due("count", x.count(8), 6);
        due("status", x.status(), 0);
        due("refused", x.count(9), 0);
        at("promise 8");
        due("row", x.row(), 1);
        int[] want = {5, 100, 10, 3, 23, 255, 1};
        for (int what = 0; what < 7; what++) due("byte " + what, x.of(0, what), want[what]);
        at("promise 9");
        due("0", x.end(0), 0);
        due("empty", x.end(1), NONE);
    }

    private static void trees() {
        readable("cut 0 to 1 1", 1);
        readable("  cut  0  to  9  9  ", 1);
        readable("cut0to9 9", 1);
        readable("cut 8 to 1 9 and 1 9;minutes 3;skill 2", 3);
        readable("minutes[[[[[[[[1]]]]]]]]", 1);
        readable("skill[[[[[[[[1]]]]]]]]", 1);
        readable("minutes 1 if not not not 1<2", 1);
        readable("minutes 1 if((((((((1<2))))))))", 1);
        readable("minutes 1 if(((([[[[1]]]]=day))))", 1);
        readable("minutes class*part+way/day-weight if 1<2 and 2>1 or 1=1", 1);
        readable(times("skill 1;", 23) + "skill 1", 24);
        readable(times("cut 0 to 1 1;", 15) + "cut 0 to 1 1", 16);
        readable("minutes " + times("1+", 49) + "1", 1);
        readable("minutes 1 if " + times("not ", 90) + "1=1", 1);
        faulty("", 0);
        faulty("   ", 3);
    }

    private static void faults() {
        faulty("", 0);
        faulty("   ", 3);
        faulty("Cut 0 to 1 1", 0);
        faulty("cutt 0 to 1 1", 0);
        faulty("cutz 0 to 1 1", 0);
        faulty("acut 0 to 1 1", 0);
        faulty("cut` 0 to 1 1", 3);
        faulty("cut{ 0 to 1 1", 3);
        faulty("cut 0: to 1 1", 5);
        faulty("cut /0 to 1 1", 4);
        faulty("cut 10 to 1 1", 4);
        faulty("cut a to 1 1", 4);
        faulty("cut 0 too 1 1", 6);
        faulty("cut 0 to 0 1", 9);
        faulty("cut 0 to 10 1", 9);
        faulty("cut 0 to 1 0", 11);
        faulty("cut 5 to 1 5", 11);
        faulty("cut 5 to 1 4", 11);
        faulty("cut 9 to 1 9", 11);
        faulty("cut 0 to 1 10", 11);
        faulty("cut 0 to 1 1 and", 16);
        faulty("cut 0 to 1 1 and 1 2 and 3 0", 27);
        faulty("cut 0 to 1 1 or 1 2", 13);
        faulty("cut 0 to 1 1;", 13);
        faulty("cut 0 to 1 1;;cut 0 to 1 1", 13);
        faulty("cut 0 to 1 1 cut 0 to 1 1", 13);
        faulty("cut 0 to 1 1 if", 15);
        faulty("cut 0 to 1 1 if  ", 17);
        faulty("cut 0 to 1 1 if 1", 17);
        faulty("cut 0 to 1 1 if 1<", 18);
        faulty("cut 0 to 1 1 if 1<2<3", 19);
        faulty("cut 0 to 1 1 if (1<2", 20);
        faulty("cut 0 to 1 1 if (1)<2", 18);
        faulty("cut 0 to 1 1 if [1<2]", 18);
        faulty("cut 0 to 1 1 if 1<2 if 1<2", 20);
        faulty("minutes 1001", 8);
        faulty("minutes 99999999999999999999", 8);
        faulty("minutes -1", 8);
        faulty("minutes 1+", 10);
        faulty("minutes 1 2", 10);
        faulty("minutes 1\t", 9);
        faulty("minutes (1)", 8);
        faulty("minutes [1", 10);
        faulty("minutes [1)", 10);
        faulty("minutes days", 8);
        faulty("minutes 1 if not", 16);
        faulty("minutes 1 if 1<2 and not or", 25);
        faulty("minutes[[[[[[[[[1]]]]]]]]]", 15);
        faulty("minutes 1 if(((((((((1<2)))))))))", 20);
        faulty("minutes 1 if(((([[[[[1]]]]]=day))))", 20);
        faulty(times("skill 1;", 24) + "skill 1", 192);
        faulty(times("skill 1;", 24) + " cut", 193);
        faulty(times("skill 1;", 24), 192);
        faulty(times("cut 0 to 1 1;", 16) + "cut 0 to 1 1", 208);
        faulty(times("cut 0 to 1 1;", 16) + "  cut 10", 210);
        faulty("minutes " + times("1+", 50) + "1", 108);
        faulty("minutes " + times("1+", 24) + "1;skill " + times("way+", 25) + "day", 64 + 100);
        CutFloor x = hall("cut 0 to 2 1");
        due("none", x.fault(), NONE);
        feedText(x, "cut 0 to 2 0");
        due("refused", x.tree(), -6);
        due("tape is empty", x.count(8), 0);
        due("place", x.fault(), 11);
        due("the one before stays", x.way(0, 11), 2);
        feedText(x, "skill 1");
        due("good", x.tree(), 1);
        due("tape is empty", x.count(8), 0);
        due("none again", x.fault(), NONE);
        due("no ways", x.count(2), 0);
    }

    private static void ways() {
        CutFloor x = hall("minutes 2;cut 3 to 2 5 and 9 9 and 1 5;skill 1;cut 0 to 1 3");
        due("part", x.way(0, 0), 3);
        due("part", x.way(1, 0), 0);
        due("added", x.way(0, 15), 3);
        due("nine", x.way(0, 19), 9);
        due("none of it", x.way(0, 10), 0);
        due("pieces", x.way(1, 13), 1);
        due("what 1", x.way(0, 1), NONE);
        due("what 9", x.way(0, 9), NONE);
        due("what 20", x.way(0, 20), NONE);
        due("what -1", x.way(0, -1), NONE);
        due("way 2", x.way(2, 0), NONE);
        due("way -1", x.way(-1, 10), NONE);
        due("extremes", x.way(MIN, MAX), NONE);
    }

    private static int minutes(String sum) {
        CutFloor x = hall("cut 1 to 1 2;cut 3 to 1 4;minutes " + sum);
        x.terms(0, 9);
        x.weighs(3, 2, 50);
        return x.goes(1, 2, 1);
    }

    private static int can(String test) {
        CutFloor x = hall("cut 1 to 1 2;cut 3 to 1 4 if " + test);
        x.terms(0, 9);
        x.weighs(3, 2, 50);
        return x.goes(1, 2, 0);
    }

    private static void goes() {
        due("class", minutes("class"), 2);
        due("part", minutes("part"), 3);
        due("way", minutes("way"), 1);
        due("day", minutes("day"), 9);
        due("weight", minutes("weight"), 50);
        due("60", minutes("61"), 60);
        due("0", minutes("1-2"), 0);
        due("left to right", minutes("20-5-3"), 12);
        due("left to right", minutes("100/7*3"), 42);
        due("terms first", minutes("2+3*4"), 14);
        due("brackets", minutes("[2+3]*4"), 20);
        due("towards 0", minutes("[1-8]/2+5"), 2);
        due("not broken", minutes("1000*1000*1000/1000/1000/20"), 50);
        due("broken", minutes("[1000*1000*1000+1]/1000/1000/20"), 1);
        due("broken within", minutes("1000*1000*1000*2/1000/1000/100"), 1);
        due("broken below", minutes("[0-1000*1000*1000-1]*0+5"), 1);
        due("not broken below", minutes("[0-1000*1000*1000]*0+5"), 5);
        due("divided", minutes("5/[day-9]"), 1);
        due("last that holds", minutes("7;minutes 8;minutes 9 if 1>2;minutes 1/0"), 8);
        due("none holds", minutes("7 if 1>2"), 1);
        due("its test is broken", minutes("7 if 1/0=0"), 1);
        due("<", can("1<2"), 1);
        due("<", can("2<2"), 0);
        due(">", can("2>1"), 1);
        due(">", can("2>2"), 0);
        due("=", can("2=2"), 1);
        due("=", can("2=1"), 0);
        due("not", can("not 1=1"), 0);
        due("not not", can("not not 1=1"), 1);
        due("not binds closely", can("not 1=1 or 1=1"), 1);
        due("not of brackets", can("not (1=1 or 1=1)"), 0);
        due("and ahead of or", can("1=1 or 1=1 and 1=2"), 1);
        due("brackets", can("(1=1 or 1=1) and 1=2"), 0);
        due("or skips what is broken", can("1=1 or 1/0=1"), 1);
        due("or asks it", can("1=2 or 1/0=1 or 1=1"), 0);
        due("and skips what is broken", can("1=2 and 1/0=1 or 1=1"), 1);
        due("and asks it", can("1=1 and 1/0=1 or 1=1"), 0);
        due("not of broken", can("not 1/0=1"), 0);
        due("facts", can("class=2 and part=3 and way=1 and day=9 and weight=50"), 1);
        CutFloor x = hall("cut 0 to 2 1 and 1 2 if class=1;skill 9 if class=1;skill 2 if class=0;skill 0-1 if day=1");
        due("skill", x.goes(0, 0, 2), 2);
        due("skill 3", x.goes(0, 1, 2), 3);
        due("skill without", x.goes(0, 2, 2), 0);
        x.terms(0, 1);
        due("skill below", x.goes(0, 1, 2), 0);
        due("can't", x.goes(0, 0, 0), 0);
        due("can", x.goes(0, 1, 0), 1);
        due("minutes without", x.goes(0, 0, 1), 1);
        x.weighs(0, 0, 1000);
        x.weighs(1, 0, 400);
        x.weighs(2, 0, 150);
        due("waste", x.goes(0, 0, 3), 50);
        due("just the loss", x.goes(0, 0, 4), 0);
        x.weighs(2, 0, 149);
        due("beyond the loss", x.goes(0, 0, 4), 1);
        x.weighs(2, 0, 201);
        due("waste below", x.goes(0, 0, 3), -1);
        due("off below", x.goes(0, 0, 4), 1);
        due("nothing weighs", x.goes(0, 2, 4), 0);
        due("what 5", x.goes(0, 0, 5), NOTHING);
        due("what -1", x.goes(0, 0, -1), NOTHING);
        due("class 3", x.goes(0, 3, 0), NOTHING);
        due("class -1", x.goes(0, -1, 0), NOTHING);
        due("way 1", x.goes(1, 0, 0), NOTHING);
        due("way -1", x.goes(-1, 0, 0), NOTHING);
    }

    private static void cuttings() {
        CutFloor x = hall("cut 0 to 2 1 and 1 3;cut 1 to 3 2;cut 0 to 1 2 if class=1;cut 1 to 1 3;cut 2 to 9 9 if class=1");
        // class 0: left; way 0 with 1 left, by way 1, by way 3
        due("class 0", x.cuttings(0), 4);
        // class 1: way 1 leaves six of 2, which way 4 may cut; way 2 leaves one of 2
        due("class 1", x.cuttings(1), 7);
        due("class 3", x.cuttings(3), NONE);
        due("class -1", x.cuttings(-1), NONE);
        at("promise 15");
        int[][] want = {{-1, -1, -1}, {0, -1, -1}, {0, 1, -1}, {0, 1, 4}, {0, 3, -1}, {2, -1, -1}, {2, -1, 4}};
        for (int i = 0; i < 7; i++) {
            for (int part = 0; part < 3; part++) due("choice " + i + " " + part, x.choice(1, i, part), want[i][part]);
        }
        due("a part that does not come", x.choice(1, 0, 9), NONE);
        due("no such", x.choice(1, 7, 0), NOTHING);
        due("no such", x.choice(1, -1, 0), NOTHING);
        due("part", x.choice(1, 0, 10), NOTHING);
        due("part", x.choice(1, 0, -1), NOTHING);
        due("class", x.choice(3, 0, 0), NOTHING);
        due("class", x.choice(-1, 0, 0), NOTHING);
        at("promise 16");
        due("left", x.left(1, 0, 0), 1);
        due("cut", x.left(1, 1, 0), 0);
        due("two", x.left(1, 1, 1), 2);
        due("six", x.left(1, 2, 2), 6);
        due("fiftyfour", x.left(1, 3, 9), 54);
        due("one and two", x.left(1, 4, 3), 3);
        due("nine", x.left(1, 6, 9), 9);
        due("no such", x.left(1, 7, 0), NONE);
        due("no such", x.left(1, -1, 0), NONE);
        due("part", x.left(1, 0, 10), NONE);
        due("part", x.left(1, 0, -1), NONE);
        due("class", x.left(3, 0, 0), NONE);
        at("promise 14");
        String six = "cut 0 to 1 1 and 1 2 and 1 3 and 1 4 and 1 5;cut 1 to 1 6;cut 2 to 1 7;cut 3 to 1 8;cut 4 to 1 9;cut 5 to 2 9";
        due("33", hall(six).cuttings(0), 33);
        CutFloor y = hall("cut 0 to 1 1 and 1 2 and 1 3 and 1 4 and 1 5 and 1 6;cut 1 to 1 7;cut 2 to 1 8;cut 3 to 1 9;cut 4 to 2 9;cut 5 to 3 9;cut 6 to 4 9 if class=1");
        due("33 of six", y.cuttings(0), 33);
        due("65", y.cuttings(1), 65);
        at("promise 15");
        due("too many", y.choice(1, 0, 0), NOTHING);
        at("promise 16");
        due("too many", y.left(1, 0, 0), NONE);
        at("promise 14");
        CutFloor z = hall(justSixtyFour());
        due("64", z.cuttings(0), 64);
        z.terms(0, 1);
        due("more", z.cuttings(0), 65);
        at("promise 16");
        due("gone back", z.left(0, 0, 0), NONE);
        z.terms(0, 0);
        due("64th", z.left(0, 63, 2), 1);
        at("promise 14");
        due("200", hall("cut 0 to 8 1;cut 1 to 5 2;cut 2 to 5 3").cuttings(0), 4);
        due("201", hall("cut 0 to 8 1 and 1 9;cut 1 to 5 2;cut 2 to 5 3").cuttings(0), 3);
    }

    private static void plans() {
        CutFloor x = shop();
        at("promise 17");
        due("brings", x.best(0), 34);
        due("plans", x.best(1), 2);
        due("what 2", x.best(2), NONE);
        due("what -1", x.best(-1), NONE);
        at("promise 18");
        due("plan 0", x.plan(0), 1);
        due("plan 1", x.plan(1), 2);
        due("plan 2", x.plan(2), NONE);
        due("plan -1", x.plan(-1), NONE);
        at("promise 19");
        due("made 1", x.made(1, 0), 2);
        due("lacks 1", x.made(1, 1), 1);
        due("made 3", x.made(3, 0), 6);
        due("lacks 3", x.made(3, 1), 0);
        due("made 0", x.made(0, 0), 0);
        due("part 10", x.made(10, 0), NONE);
        due("part -1", x.made(-1, 0), NONE);
        due("what 2", x.made(1, 2), NONE);
        due("what -1", x.made(1, -1), NONE);
        at("promise 20");
        due("value 0", x.value(0), 13);
        due("value 2", x.value(2), 13);
        due("value 3", x.value(3), NONE);
        due("value -1", x.value(-1), NONE);
        at("promise 21");
        due("shorts 0", x.shorts(0), 13);
        due("shorts 1", x.shorts(1), NOTHING);
        due("shorts 3", x.shorts(3), NOTHING);
        due("shorts -1", x.shorts(-1), NOTHING);
        at("promise 22");
        due("worth 1", x.worth(1), 8);
        due("worth 9", x.worth(9), 0);
        due("worth 0", x.worth(0), 0);
        due("worth 10", x.worth(10), NONE);
        due("worth -1", x.worth(-1), NONE);
        due("nothing has changed", x.best(0), 34);
        due("nothing has changed", x.put(1, 2, 3), 3);
        at("promise 17");
        x.put(1, 0, 0);
        x.put(1, 1, 200);
        due("over brings more than price", x.best(0), 200 + 2);
        at("promise 22");
        due("worth below 0", x.worth(1), 26 - 202);
        noPlan();
        plansOfSixtyFour();
        counted();
        limits();
    }

    private static void noPlan() {
        CutFloor x = hall(crowdedForOne());
        at("promise 17");
        due("there are none of it", x.best(0), 0);
        x.carcasses(0, 1);
        due("nor now", x.best(1), 1);
        at("promise 20");
        due("with one of it there is no plan", x.value(1), NONE);
        due("of another there is", x.value(2), 0);
        x.carcasses(1, 1);
        at("promise 17");
        due("no plan", x.best(0), NONE);
        due("no plan", x.best(1), NONE);
        at("promise 18");
        due("no plan", x.plan(0), NONE);
        at("promise 19");
        due("no plan", x.made(0, 0), NONE);
        at("promise 20");
        due("no plan", x.value(0), NONE);
        at("promise 21");
        due("no plan", x.shorts(1), NOTHING);
        due("no plan", x.shorts(0), NOTHING);
        at("promise 22");
        due("no plan", x.worth(0), NONE);
        at("promise 23");
        due("no plan", x.change(1, 0), NONE);
        at("promise 25");
        for (int what = 0; what < 4; what++) due("no plan", x.given(what), NONE);
        at("promise 26");
        due("no plan", x.task(NONE), NONE);
        due("no plan", x.task(0), NONE);
        at("promise 27");
        due("no plan", x.share(NONE), NONE);
        at("promise 38");
        due("some day has no plan", x.week(1), -3);
        due("no week", x.came(0, 0), NONE);
        x.carcasses(1, 0);
        due("now there is", x.week(1), 0);
        at("promise 17");
        due("now there is", x.best(1), 1);
    }

    /** Sixty-four cuttings are a plan's, one more are not, in every class alike. */
    private static void plansOfSixtyFour() {
        at("promise 17");
        for (int cls = 0; cls < 3; cls++) {
            CutFloor x = hall(justSixtyFour());
            x.put(2, 1, 3);
            x.carcasses(cls, 2);
            due("64 cuttings", x.cuttings(cls), 64);
            due("brings", x.best(0), 6);
            due("plans", x.best(1), 56 * 56);
            due("the first", x.plan(0), 2);
            x.terms(0, 1);
            due("65 cuttings", x.best(0), NONE);
            x.carcasses(cls, 0);
            due("none of it", x.best(0), 0);
            due("with one of it", x.value(cls), NONE);
            x.terms(0, 0);
            due("64 again", x.value(cls), 3);
        }
    }

    private static void counted() {
        at("promise 17");
        CutFloor x = hall(times("cut 0 to 1 1;", 15) + "skill 1");
        for (int n = 0; n <= 7; n++) {
            x.carcasses(0, n);
            due("16 to the " + n, x.best(1), (int) Math.min(1_000_000_000L, Math.round(Math.pow(16, n))));
        }
        x.put(1, 0, 1);
        x.put(1, 2, 1);
        x.carcasses(0, 2);
        due("one of two at least", x.best(1), 256 - 1);
        at("promise 18");
        due("lowest", x.plan(0), 0);
        due("lowest", x.plan(1), 1);
        x.put(1, 2, 2);
        due("lowest", x.plan(0), 1);
    }

    private static void limits() {
        CutFloor x = hall("cut 0 to 1 1");
        x.carcasses(1, 8);
        at("promise 20");
        due("eight are there", x.value(0), NONE);
        at("promise 22");
        x.put(1, 0, 5);
        x.put(1, 2, 7);
        due("eighth", x.worth(1), 5);
        x.put(1, 2, 8);
        due("its order is 8", x.worth(1), NONE);
        for (int part = 2; part < 6; part++) x.put(part, 2, 1);
        due("a sixth order", x.worth(6), NONE);
        due("one of the five", x.worth(5), 0);
        at("promise 21");
        due("shorts", x.shorts(1), 5);
        at("promise 17");
        due("orders of all classes", x.best(0), 40);
        at("promise 19");
        due("made", x.made(1, 0), 8);
        due("lacks", x.made(5, 1), 1);
    }

    private static void change() {
        CutFloor x = shop();
        due("one stays as it is", x.change(0, 0), 0);
        due("brings", x.change(0, 1), 21);
        due("what", x.change(0, 2), NONE);
        due("what", x.change(0, -1), NONE);
        due("none of it", x.change(1, 0), NONE);
        due("class", x.change(3, 0), NONE);
        due("class", x.change(-1, 0), NONE);
        // way 0 brings 1s, way 1 brings 2s; one of each is wanted: without the other the first must change
        CutFloor y = hall("cut 0 to 1 1 if class=0;cut 0 to 1 2;cut 0 to 1 3");
        y.put(1, 0, 5);
        y.put(1, 2, 1);
        y.put(2, 0, 9);
        y.put(2, 2, 1);
        y.carcasses(0, 1);
        y.carcasses(1, 1);
        due("the first", y.plan(0), 1);
        due("the second", y.plan(1), 1);
        due("must change", y.change(1, 0), 1);
        due("brings", y.change(1, 1), 9);
        due("may stay", y.change(0, 0), 0);
        due("brings", y.change(0, 1), 9);
        due("asked again", y.change(1, 0), 1);
        y.carcasses(1, 0);
        due("the only one", y.change(0, 0), 0);
        due("brings nothing", y.change(0, 1), 0);
        due("nothing has changed", y.best(0), 9);
        // the plans for the others that bring most are many, of them the one nearest to the FIRST counts
        CutFloor z = hall("cut 0 to 1 1;cut 0 to 1 2;cut 0 to 1 3");
        for (int part = 1; part < 4; part++) {
            z.put(part, 0, 4);
            z.put(part, 2, 1);
        }
        z.carcasses(0, 3);
        due("row", z.plan(0) * 100 + z.plan(1) * 10 + z.plan(2), 123);
        due("of six plans", z.best(1), 6);
        due("nobody changes", z.change(0, 0), 0);
        due("brings", z.change(0, 1), 8);
    }

    private static void given() {
        CutFloor x = shop();
        at("promise 24");
        for (int i = 0; i < 8; i++) due("at first", x.give(i, 63), 0);
        for (int i = 0; i < 8; i++) due("was", x.give(i, 0), 63);
        due("carcass 8", x.give(8, 0), -1);
        due("carcass -1", x.give(-1, 0), -1);
        due("cutting 64", x.give(0, 64), -1);
        due("cutting -1", x.give(0, -1), -1);
        at("promise 25");
        due("brings", x.given(0), 0);
        due("less", x.given(1), 34);
        due("otherwise", x.given(2), 2);
        due("lacks", x.given(3), 3);
        x.give(0, 1);
        x.give(1, 2);
        due("brings", x.given(0), 34);
        due("less", x.given(1), 0);
        due("otherwise", x.given(2), 0);
        due("lacks", x.given(3), 1);
        x.give(1, 63);
        due("not there: 0", x.given(0), 21);
        due("not there: otherwise", x.given(2), 1);
        at("promise 24");
        due("kept as told", x.give(1, 1), 63);
        at("promise 25");
        due("two twos", x.given(0), 32);
        due("all have", x.given(3), 0);
        due("what 4", x.given(4), NONE);
        due("what -1", x.given(-1), NONE);
        CutFloor y = new CutFloor();
        y.carcasses(0, 1);
        y.give(0, 5);
        due("cutting 5 is not there: as 0", y.given(2), 0);
    }

    private static void tasks() {
        CutFloor x = shop();
        at("promise 26");
        due("two carcasses", x.task(0), 10);
        due("two halves", x.task(1), 10);
        due("all", x.task(NONE), 20);
        due("way 2", x.task(2), NONE);
        due("way -2", x.task(-2), NONE);
        at("promise 27");
        due("nobody", x.share(NONE), NONE);
        x.man(1);
        due("nobody has skill 1", x.share(NONE), NONE);
        due("nobody has skill 1", x.share(0), NONE);
        x.man(3);
        due("longest", x.share(NONE), 10);
        due("who", x.share(0), 0);
        due("who", x.share(1), 1);
        x.skills(0, 3);
        due("lower men ahead", x.share(0), 0);
        due("lower men ahead", x.share(1), 1);
        x.skills(1, 0);
        due("one for all", x.share(NONE), 20);
        due("one for all", x.share(1), 0);
        due("way 2", x.share(2), NONE);
        due("way -2", x.share(-2), NONE);
        byClasses();
        shared();
    }

    private static void byClasses() {
        CutFloor x = hall("cut 0 to 1 1;cut 0 to 1 2;minutes class*10+3;skill class;minutes 0 if way=1");
        x.put(1, 1, 5);
        x.carcasses(1, 1);
        x.carcasses(2, 2);
        at("promise 26");
        due("by their classes", x.task(0), 13 + 23 + 23);
        due("not gone", x.task(1), 0);
        at("promise 27");
        x.man(4);
        due("skill by the lowest class", x.share(0), NONE);
        x.man(2);
        due("skill by the lowest class", x.share(0), 1);
        due("not gone", x.share(1), NONE);
        x.put(1, 1, 0);
        x.put(2, 1, 5);
        due("no minutes, but a task", x.share(1), 1);
        due("no minutes", x.share(NONE), 0);
        at("promise 26");
        due("no minutes", x.task(NONE), 0);
    }

    private static void shared() {
        // parts 1 .. 5 each cut once, with 3, 3, 2, 2, 2 minutes: 6 and 6
        CutFloor x = hall("cut 0 to 1 1 and 1 2 and 1 3 and 1 4 and 1 5;cut 1 to 1 9;cut 2 to 1 9;cut 3 to 1 9;cut 4 to 1 9;cut 5 to 1 9;"
                + "minutes 3;minutes 2 if way>2;minutes 0 if way=0");
        x.put(9, 1, 7);
        x.carcasses(0, 1);
        x.man(1);
        x.man(1);
        at("promise 26");
        due("all", x.task(NONE), 12);
        at("promise 27");
        due("longest", x.share(NONE), 6);
        int[] men = {0, 0, 0, 1, 1, 1};
        for (int way = 0; way < 6; way++) due("man of " + way, x.share(way), men[way]);
        CutFloor y = hall("cut 0 to 1 1;cut 0 to 1 1;cut 1 to 1 2;cut 2 to 1 3;cut 3 to 1 4;cut 4 to 1 5;cut 5 to 1 6;cut 6 to 1 7;cut 7 to 1 8;"
                + "cut 8 to 1 9 and 1 9;cut 0 to 1 9 if class=1");
        y.put(9, 1, 1);
        y.man(15);
        y.carcasses(0, 1);
        due("nine tasks", y.share(NONE), 9);
        at("promise 26");
        due("way 1 is not gone", y.task(1), 0);
        due("way 9", y.task(9), 1);
        at("promise 27");
        CutFloor z = hall("cut 0 to 2 1;cut 1 to 1 2;cut 2 to 1 3;cut 3 to 1 4;cut 4 to 1 5;cut 5 to 1 6;cut 6 to 1 7;cut 7 to 1 8;cut 8 to 1 9;"
                + "cut 0 to 1 9 and 1 5 and 1 9 if class=1;cut 5 to 1 8 if class=1;cut 5 to 2 9 if class=2;cut 0 to 9 5 if class=2");
        z.put(9, 1, 1);
        z.man(15);
        z.carcasses(0, 1);
        due("nine", z.share(NONE), 18 - 1);
        z.carcasses(1, 1);
        due("ten", z.share(9), 0);
        z.carcasses(2, 1);
        at("promise 26");
        due("more than ten are told", z.task(11), 9);
        at("promise 27");
        due("more than ten", z.share(NONE), NONE);
        due("more than ten", z.share(0), NONE);
        // nine ways of class 0, one of class 1, one of class 2
        CutFloor e = hall("cut 0 to 2 1;cut 1 to 1 2;cut 2 to 1 3;cut 3 to 1 4;cut 4 to 1 5;cut 5 to 1 6;cut 6 to 1 7;cut 7 to 1 8;cut 8 to 1 9;"
                + "cut 0 to 5 9 if class=1;cut 0 to 6 9 if class=2");
        e.put(9, 1, 1);
        e.man(15);
        e.carcasses(0, 1);
        e.carcasses(1, 1);
        due("just ten", e.share(NONE), 18);
        e.carcasses(2, 1);
        due("just eleven", e.share(NONE), NONE);
        due("just eleven", e.share(0), NONE);
        at("promise 26");
        due("just eleven", e.task(NONE), 19);
        CutFloor s = hall(times("cut 0 to 1 1;", 15) + "cut 0 to 1 1");
        due("way 15", s.task(15), 0);
        due("way 16", s.task(16), NONE);
        due("way 17", s.task(17), NONE);
        at("promise 27");
        due("way 15", s.share(15), NONE);
        due("way 16", s.share(16), NONE);
        due("way 17", s.share(17), NONE);
    }

    private static void boxes() {
        CutFloor x = new CutFloor();
        at("promise 28");
        int[][] bad = {{0, 0, 0, 0, 0, 0}, {100, 0, 0, 0, 0, 0}, {1, -1, 0, 0, 0, 0}, {1, 101, 0, 0, 0, 0}, {1, 0, -1, 0, 0, 0},
            {1, 0, 100, 0, 0, 0}, {1, 0, 0, -1, 0, 0}, {1, 0, 0, 4, 0, 0}, {1, 0, 0, 0, -1, 0}, {1, 0, 0, 0, 24, 0},
            {1, 0, 0, 0, 0, -1}, {1, 0, 0, 0, 0, 256}};
        for (int[] b : bad) due("bad", x.box(b[0], b[1], b[2], b[3], b[4], b[5]), -1);
        due("least", x.box(1, 0, 0, 0, 0, 0), 0);
        due("most", x.box(99, 100, 99, 3, 23, 255), 1);
        at("promise 29");
        int[] want = {99, 100, 99, 3, 23, 255, 1};
        for (int what = 0; what < 7; what++) due("of " + what, x.of(1, what), want[what]);
        due("what 7", x.of(1, 7), NONE);
        due("what -1", x.of(1, -1), NONE);
        due("box 2", x.of(2, 0), NONE);
        due("box -1", x.of(-1, 0), NONE);
        at("promise 28");
        for (int i = 2; i < 16; i++) due("box", x.box(1, 1, 1, 1, 1, 1), i);
        due("no room", x.box(1, 1, 1, 1, 1, 1), -5);
        due("a number first", x.box(0, 1, 1, 1, 1, 1), -1);
        x.send(16, 99, 0, 99);
        due("sent ones take room too", x.box(1, 1, 1, 1, 1, 1), -5);
        due("count", x.count(5), 16);
        due("there", x.count(4), 0);
    }

    private static void rows() {
        CutFloor x = new CutFloor();
        due("empty", x.row(), -6);
        due("spoilt", x.spoilt(), 0);
        feedText(x, bytes(1, 2, 3, 0, 5, 6, 0, 2, 3, 0, 5, 6, 99, 100, 99, 3, 23, 255, 1, 2, 3));
        due("came", x.row(), 2);
        due("tape", x.count(8), 0);
        at("promise 31");
        due("spoilt", x.spoilt(), 2);
        at("promise 30");
        due("of", x.of(1, 4), 23);
        due("there", x.of(1, 6), 1);
        due("empty", x.row(), -6);
        at("promise 31");
        due("stays", x.spoilt(), 2);
        at("promise 30");
        feedText(x, bytes(1, 101, 3, 0, 5, 6, 1, 2, 100, 0, 5, 6, 1, 2, 3, 4, 5, 6, 1, 2, 3, 0, 24, 6));
        due("none came", x.row(), 0);
        at("promise 31");
        due("all spoilt", x.spoilt(), 4);
        at("promise 30");
        for (int i = 2; i < 15; i++) x.box(1, 1, 1, 1, 1, 1);
        feedText(x, bytes(1, 2, 3, 0, 5, 6, 2, 2, 3, 0, 5, 6));
        due("room for one", x.row(), 1);
        at("promise 31");
        due("no room", x.spoilt(), 1);
        feedText(x, bytes(9));
        at("promise 30");
        due("tape ends within", x.row(), 0);
        due("not refused", x.status(), 0);
    }

    private static void mixes() {
        CutFloor x = new CutFloor();
        x.box(10, 50, 5, 0, 3, 1);
        x.box(20, 30, 4, 0, 3, 2);
        x.box(5, 80, 5, 1, 3, 2);
        due("away", x.mix(15, 30, 40, 0), 0);
        due("bits", x.mix(15, 30, 40, 1), 6);
        due("many", x.mix(15, 30, 40, 2), 2);
        due("all", x.mix(1, 1584, 0, 2), 7);
        due("least, at lean 0", x.mix(1, 1584, 0, 0), 400);
        due("bits", x.mix(1, 1584, 0, 1), 4);
        due("all of them", x.mix(35, 35, 0, 1), 7);
        due("too lean", x.mix(1, 1584, 81, 2), 0);
        due("too lean", x.mix(1, 1584, 81, 0), NONE);
        due("too lean", x.mix(1, 1584, 81, 1), NONE);
        due("exactly as lean", x.mix(1, 1584, 80, 0), 0);
        due("none weighs so", x.mix(36, 1584, 0, 1), NONE);
        due("from beyond to", x.mix(30, 15, 0, 2), 0);
        due("from beyond to", x.mix(30, 15, 0, 1), NONE);
        due("from 0", x.mix(0, 10, 0, 2), NONE);
        due("to 1585", x.mix(1, 1585, 0, 2), NONE);
        due("from 1585", x.mix(1585, 1585, 0, 2), NONE);
        due("from 1585", x.mix(1585, 1584, 0, 2), NONE);
        due("to 1", x.mix(1, 1, 0, 2), 0);
        due("to 5", x.mix(1, 5, 0, 2), 1);
        due("to 10", x.mix(1, 10, 0, 2), 2);
        due("from 6", x.mix(6, 10, 0, 2), 1);
        due("lean 51", x.mix(6, 10, 51, 2), 0);
        due("to 0", x.mix(1, 0, 0, 2), NONE);
        due("lean 101", x.mix(1, 10, 101, 2), NONE);
        due("lean -1", x.mix(1, 10, -1, 2), NONE);
        due("what 3", x.mix(1, 10, 0, 3), NONE);
        due("what -1", x.mix(1, 10, 0, -1), NONE);
        x.box(10, 50, 5, 0, 3, 1);
        due("lowest as bits", x.mix(10, 10, 50, 1), 1);
        due("two", x.mix(10, 10, 50, 2), 2);
        x.send(1, 5, 0, 0);
        due("sent ones are not there", x.mix(10, 10, 50, 1), 8);
        x.again(0);
        due("there again", x.mix(10, 10, 50, 1), 1);
        CutFloor z = new CutFloor();
        for (int i = 0; i < 8; i++) z.box(50, 20, 0, 0, 0, 0);
        z.box(7, 30, 0, 0, 0, 0);
        z.box(1, 30, 0, 0, 0, 0);
        due("the ninth", z.mix(7, 7, 30, 1), 256);
        due("the tenth", z.mix(1, 1, 0, 1), 512);
        due("the ninth and the tenth", z.mix(8, 8, 30, 1), 768);
        due("the first and the tenth", z.mix(51, 51, 0, 1), 513);
        CutFloor y = new CutFloor();
        for (int i = 0; i < 16; i++) y.box(99, 100, 0, 0, 0, 0);
        due("all", y.mix(1584, 1584, 100, 1), 65535);
        due("every one", y.mix(1, 1584, 100, 2), 65535);
        due("away", y.mix(1584, 1584, 0, 0), 158_400);
    }

    private static void send() {
        CutFloor x = new CutFloor();
        int[] made = {5, 3, 5, 2, 9, 3};
        for (int day : made) x.box(1, 1, day, 0, 0, 1);
        due("n 0", x.send(0, 9, 0, 9), -1);
        due("n 17", x.send(17, 9, 0, 9), -1);
        due("day", x.send(1, 100, 0, 9), -1);
        due("day", x.send(1, -1, 0, 9), -1);
        due("least", x.send(1, 9, -1, 9), -1);
        due("least", x.send(1, 9, 100, 9), -1);
        due("most", x.send(1, 9, 0, 100), -1);
        due("most", x.send(1, 9, 0, -1), -1);
        due("made first, of alike ones the lower", x.send(2, 9, 1, 6), 1 << 1 | 1 << 5);
        due("not there", x.of(1, 6), 0);
        due("fewer: all such", x.send(16, 9, 4, 6), 1 << 0 | 1 << 2);
        due("not made yet", x.send(16, 8, 0, 5), 0);
        due("status", x.status(), 0);
        due("on the day", x.send(16, 9, 0, 0), 1 << 4);
        due("least beyond most", x.send(16, 9, 9, 0), 0);
        due("last", x.send(1, 99, 97, 97), 1 << 3);
        at("promise 34");
        due("back", x.again(4), 0);
        due("there", x.of(4, 6), 1);
        due("it is there", x.again(4), -3);
        due("no such", x.again(6), -2);
        due("no such", x.again(-1), -2);
        due("sent again", x.send(1, 9, 0, 0), 1 << 4);
    }

    private static void recall() {
        CutFloor x = new CutFloor();
        x.box(1, 1, 5, 0, 3, 1);
        x.box(1, 1, 5, 0, 3, 2);
        x.box(1, 1, 6, 0, 3, 2 | 4);
        x.box(1, 1, 5, 1, 3, 8);
        x.box(1, 1, 5, 0, 4, 16);
        x.box(1, 1, 9, 3, 9, 4);
        x.box(1, 1, 6, 0, 3, 0);
        due("bits", x.recall(1, NONE), 1 | 2 | 4 | 32 | 64);
        int[] rounds = {0, 1, 2, NONE, NONE, 3, 3};
        for (int box = 0; box < 7; box++) due("round of " + box, x.recall(1, box), rounds[box]);
        due("two at once", x.recall(24, NONE), 24);
        due("round 0", x.recall(24, 4), 0);
        due("none", x.recall(0, NONE), 0);
        due("none", x.recall(0, 0), NONE);
        due("nobody", x.recall(128, NONE), 0);
        due("256", x.recall(256, NONE), NONE);
        due("-1", x.recall(-1, NONE), NONE);
        due("box 7", x.recall(1, 7), NONE);
        due("box -2", x.recall(1, -2), NONE);
        x.send(16, 9, 0, 9);
        due("sent ones too", x.recall(1, NONE), 1 | 2 | 4 | 32 | 64);
        CutFloor chain = new CutFloor();
        for (int i = 0; i < 16; i++) chain.box(1, 1, i / 2, 0, 0, i == 0 ? 1 : (i & 1) == 1 && i < 15 ? 1 << (i + 1) / 2 : i < 15 ? 1 << i / 2 : 0);
        due("a long chain", chain.recall(1, 15), 15);
    }

    private static void drift() {
        CutFloor x = new CutFloor();
        at("promise 36");
        due("1000", x.yields(1000, 0), -1);
        due("1000", x.yields(0, 1000), -1);
        due("-1", x.yields(-1, 0), -1);
        due("-1", x.yields(0, -1), -1);
        at("promise 37");
        due("none", x.drift(0, 0, 0), NONE);
        due("none", x.drift(0, 0, 1), 0);
        at("promise 36");
        due("first", x.yields(10, 9), 1);
        due("second", x.yields(10, 7), 2);
        due("third", x.yields(10, 12), 3);
        due("fourth", x.yields(999, 0), 4);
        at("promise 37");
        due("which", x.drift(0, 3, 0), 1);
        due("behind the first", x.drift(0, 0, 0), 0);
        due("above, not at", x.drift(0, 4, 0), 3);
        due("greatest", x.drift(0, 4, 1), 1001);
        due("allowed", x.drift(2, 1, 0), 3);
        due("never below 0", x.drift(99, 0, 1), 900);
        due("none", x.drift(0, 1001, 0), NONE);
        due("greatest all the same", x.drift(0, 9999, 1), 1001);
        due("allow 100", x.drift(100, 0, 1), NONE);
        due("allow -1", x.drift(-1, 0, 1), NONE);
        due("limit 10000", x.drift(0, 10000, 1), NONE);
        due("limit -1", x.drift(0, -1, 1), NONE);
        due("what 2", x.drift(0, 0, 2), NONE);
        due("what -1", x.drift(0, 0, -1), NONE);
        at("promise 36");
        for (int i = 5; i <= 40; i++) due("yields", x.yields(0, 999), i);
        due("no room", x.yields(0, 0), -5);
        due("a number first", x.yields(1000, 0), -1);
        due("count", x.count(6), 40);
        at("promise 37");
        due("of forty", x.drift(0, 0, 1), 1001);
    }

    private static void week() {
        CutFloor x = new CutFloor();
        x.carcasses(0, 2);
        x.put(0, 1, 7);
        at("promise 39");
        due("ahead of any", x.came(0, 0), NONE);
        at("promise 38");
        due("brings", x.week(5), 42);
        at("promise 39");
        due("came", x.came(0, 0), 1);
        due("came", x.came(2, 0), 2);
        due("none of it", x.came(0, 1), 0);
        due("day 5", x.came(5, 0), NONE);
        due("day -1", x.came(-1, 0), NONE);
        due("class 3", x.came(0, 3), NONE);
        due("class -1", x.came(0, -1), NONE);
        at("promise 38");
        due("below", x.week(-1), -1);
        due("beyond", x.week(1_000_001), -1);
        at("promise 39");
        due("the latest stays", x.came(2, 0), 2);
        at("promise 38");
        // by hand: the draws of seed 1,000,000 with 2, 3, 1 carcasses
        x.carcasses(1, 3);
        x.carcasses(2, 1);
        x.put(0, 0, 50);
        x.put(0, 2, 2);
        long s = 1_000_000;
        int sum = 0;
        int[] came = new int[15];
        int[] many = {2, 3, 1};
        for (int i = 0; i < 15; i++) {
            s = (s * 1103 + 12345) % 1_000_003;
            came[i] = (int) (s % (many[i % 3] + 1));
            if (i % 3 == 2) {
                int n = came[i] + came[i - 1] + came[i - 2];
                sum += Math.min(2, n) * 50 + Math.max(0, n - 2) * 7;
            }
        }
        due("brings, orders anew each day", x.week(1_000_000), sum);
        at("promise 39");
        for (int i = 0; i < 15; i++) due("came " + i, x.came(i / 3, i % 3), came[i]);
        at("promise 38");
        due("nothing has changed", x.count(0), 6);
    }

    private static void images() {
        CutFloor x = shop();
        at("promise 40");
        due("2", x.image(2), -1);
        due("-1", x.image(-1), -1);
        at("promise 41");
        due("2", x.back(2), -1);
        due("-1", x.back(-1), -1);
        due("not kept", x.back(0), -2);
        x.man(1);
        x.man(3);
        x.give(0, 1);
        x.box(5, 50, 1, 0, 0, 1);
        x.yields(5, 1);
        x.terms(0, 3);
        x.terms(1, 7);
        x.weighs(0, 0, 100);
        at("promise 40");
        due("kept", x.image(1), 0);
        due("best", x.best(0), 34);
        feedText(x, "cut 0 to 1 9");
        x.tree();
        x.carcasses(0, 8);
        x.put(1, 0, 99);
        x.put(9, 1, 1);
        x.skills(0, 2);
        x.man(4);
        x.give(0, 0);
        x.send(1, 1, 0, 0);
        x.box(6, 50, 1, 0, 0, 1);
        x.yields(6, 1);
        x.terms(0, 4);
        x.terms(1, 8);
        x.weighs(0, 0, 101);
        x.week(9);
        due("best is another", x.best(0), 8);
        due("other image", x.image(0), 0);
        feedText(x, bytes(1, 2, 3));
        x.row();
        feedText(x, "cut 5 to 1 5");
        x.tree();
        feedText(x, "skill");
        at("promise 41");
        int refused = x.count(13);
        int came = x.came(1, 0);
        due("back", x.back(1), 0);
        due("status", x.status(), 0);
        due("tape is not kept", x.count(8), 5);
        due("fault is not kept", x.fault(), 11);
        due("spoilt is not kept", x.spoilt(), 1);
        due("the week is not kept", x.came(1, 0), came);
        due("refusals are not kept", x.count(13), refused);
        due("best", x.best(0), 34);
        due("plan", x.plan(1), 2);
        due("share", x.share(1), 1);
        due("men", x.count(3), 2);
        due("skills", x.skills(0, 1), 1);
        due("given", x.give(0, 1), 1);
        due("boxes", x.count(5), 1);
        due("there", x.count(4), 1);
        due("mix", x.mix(1, 99, 0, 1), 1);
        due("yields", x.count(6), 1);
        due("drift", x.drift(0, 0, 1), 4);
        due("day", x.terms(0, 3), 3);
        due("loss", x.terms(1, 7), 7);
        due("weight", x.weighs(0, 0, 100), 100);
        due("ways", x.count(2), 2);
        due("price", x.put(1, 0, 10), 10);
        due("the other", x.back(0), 0);
        due("ways", x.count(2), 1);
        due("best", x.best(0), 8);
        x.carcasses(0, 0);
        due("images stay", x.back(0), 0);
        due("carcasses", x.count(0), 8);
        due("images stay", x.back(1), 0);
        due("carcasses", x.count(0), 2);
        x.carcasses(0, 1);
        x.image(1);
        x.carcasses(0, 0);
        due("kept anew", x.back(1), 0);
        due("carcasses", x.count(0), 1);
        CutFloor y = new CutFloor();
        y.image(0);
        y.yields(9, 2);
        y.man(5);
        y.box(9, 9, 9, 2, 9, 9);
        y.image(1);
        y.back(0);
        y.yields(9, 8);
        y.man(6);
        y.box(8, 8, 8, 1, 8, 8);
        due("what was overwritten", y.back(1), 0);
        due("a yield", y.drift(0, 0, 1), 7);
        due("a man", y.skills(0, 0), 5);
        for (int what = 0; what < 6; what++) due("a box", y.of(0, what), what == 3 ? 2 : 9);
        CutFloor z = hall("cut 0 to 1 1");
        z.put(1, 1, 4);
        z.carcasses(0, 1);
        due("one piece", z.best(0), 4);
        z.image(0);
        feedText(z, "cut 0 to 2 1");
        z.tree();
        due("two pieces", z.best(0), 8);
        z.image(1);
        z.back(0);
        due("one piece", z.left(0, 1, 1), 1);
        due("one piece", z.best(0), 4);
        z.back(1);
        due("two pieces", z.left(0, 1, 1), 2);
        due("two pieces", z.best(0), 8);
        feedText(z, "cut 0 to 3 1");
        z.tree();
        due("three pieces", z.best(0), 12);
        z.back(0);
        due("one piece", z.best(0), 4);
    }

    private static void counts() {
        CutFloor x = hall("cut 0 to 1 1;skill 1;cut 0 to 1 2");
        x.carcasses(0, 1);
        x.carcasses(1, 2);
        x.carcasses(2, 3);
        x.man(1);
        x.box(1, 1, 1, 1, 1, 1);
        x.box(1, 1, 1, 1, 1, 1);
        x.send(1, 1, 0, 0);
        x.yields(1, 1);
        x.put(1, 2, 1);
        x.put(2, 2, 1);
        x.feed(0, 0, 0, 0, 0);
        int[] want = {6, 3, 2, 1, 1, 2, 1, 2, 20, 0, 0, 0, 0, 0};
        for (int what = 0; what < want.length; what++) due("count " + what, x.count(what), want[what]);
        due("14", x.count(14), NONE);
        due("-1", x.count(-1), NONE);
        due("extreme", x.count(MIN), NONE);
        x.end(0);
        x.row();
        x.tree();
        x.tree();
        due("-6", x.count(13), 3);
        for (int i = 0; i < 4; i++) x.man(0);
        due("-5", x.count(12), 1);
        x.carcasses(0, 8);
        x.again(1);
        due("-3", x.count(11), 2);
        x.again(9);
        x.back(0);
        x.skills(7, 0);
        due("-2", x.count(10), 3);
        x.terms(9, 9);
        x.give(9, 9);
        x.week(-1);
        x.image(7);
        due("-1", x.count(9), 4);
        x.end(-1);
        x.best(9);
        x.way(99, 0);
        due("no refusals", x.count(9), 4);
    }

    private static void status() {
        CutFloor x = new CutFloor();
        due("ahead of any", x.status(), 0);
        x.carcasses(3, 0);
        due("carcasses", x.status(), -1);
        x.carcasses(0, 8);
        due("carcasses", x.status(), 0);
        x.carcasses(1, 1);
        due("carcasses", x.status(), -3);
        x.count(0);
        x.best(9);
        x.end(-1);
        x.feed(0, 0, 0, 0, 0);
        x.fault();
        x.goes(0, 0, 0);
        x.mix(0, 0, 0, 0);
        x.drift(-1, 0, 0);
        x.recall(-1, 0);
        due("others leave it", x.status(), -3);
        x.weighs(0, 0, 1);
        due("weighs", x.status(), 0);
        x.weighs(0, 0, -1);
        due("weighs", x.status(), -1);
        x.put(0, 0, 1);
        due("put", x.status(), 0);
        x.put(0, 0, -1);
        due("put", x.status(), -1);
        x.man(1);
        due("man", x.status(), 0);
        x.skills(1, 0);
        due("skills", x.status(), -2);
        x.terms(0, 1);
        due("terms", x.status(), 0);
        x.end(0);
        x.tree();
        due("tree", x.status(), -6);
        x.give(0, 1);
        due("give", x.status(), 0);
        x.row();
        due("row", x.status(), -6);
        x.box(1, 1, 1, 1, 1, 1);
        due("box", x.status(), 0);
        x.send(0, 0, 0, 0);
        due("send", x.status(), -1);
        x.yields(0, 0);
        due("yields", x.status(), 0);
        x.again(0);
        due("again", x.status(), -3);
        x.week(0);
        due("week", x.status(), 0);
        x.back(0);
        due("back", x.status(), -2);
        x.image(0);
        due("image", x.status(), 0);
        x.image(2);
        due("image", x.status(), -1);
        x.back(0);
        due("back", x.status(), 0);
        for (int i = 0; i < 3; i++) x.man(1);
        x.man(1);
        due("man", x.status(), -5);
        x.give(8, 0);
        due("give", x.status(), -1);
        x.week(1_000_001);
        due("week", x.status(), -1);
        x.send(1, 1, 0, 0);
        due("send", x.status(), 0);
    }

    public static void main(String[] args) {
        at("promise 1");
        newObject();
        at("promise 2");
        carcasses();
        at("promise 3");
        weighs();
        at("promise 4");
        put();
        at("promise 5");
        men();
        at("promise 7");
        terms();
        at("promise 8");
        feedAndEnd();
        at("promise 10");
        trees();
        at("promise 11");
        faults();
        at("promise 12");
        ways();
        at("promise 13");
        goes();
        at("promise 14");
        cuttings();
        plans();
        at("promise 23");
        change();
        given();
        tasks();
        boxes();
        at("promise 30");
        rows();
        at("promise 32");
        mixes();
        at("promise 33");
        send();
        at("promise 35");
        recall();
        drift();
        week();
        images();
        at("promise 42");
        counts();
        at("promise 43");
        status();
        finish("places");
    }
}
