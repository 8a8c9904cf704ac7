/**
 * The document's promises, one by one: each answer that is due in a boundary case (NONE, NOTHING, a refusal, none,
 * full) has a test of its own here.
 */
public final class BoundsOfPromisesTest extends Dues {
    private static final String FEW_WAYS = "cut 0 to 2 1 and 1 2;cut 1 to 3 3;minutes 5;skill 1 if way=1";

    /** A carcass of CLASS 1 is there, which has more than 64 CUTTINGS, and one of CLASS 0, which has one. */
    private static CutFloor noPlan() {
        CutFloor x = hall(crowdedForOne());
        x.carcasses(0, 1);
        x.carcasses(1, 1);
        return x;
    }

    private static CutFloor fullOfBoxes() {
        CutFloor x = new CutFloor();
        for (int i = 0; i < 16; i++) x.box(1 + i, 2 * i, i, i % 4, i, 1 << i % 8);
        return x;
    }

    /** The call before was REFUSED by that, as the answer, status() and count() all tell. */
    private static void refused(CutFloor x, String call, int got, int by, int timesByThat) {
        due(call, got, by);
        due("status behind " + call, x.status(), by);
        due("how many so behind " + call, x.count(by >= -3 ? 8 - by : 7 - by), timesByThat);
    }

    private static void allowed(CutFloor x, String call, int got, int want) {
        due(call, got, want);
        due("status behind " + call, x.status(), 0);
    }

    private static void newObject() {
        at("1: nothing is there");
        CutFloor x = new CutFloor();
        for (int what = 0; what <= 13; what++) due("count " + what, x.count(what), 0);
        due("status", x.status(), 0);
        due("fault", x.fault(), NONE);
        due("spoilt", x.spoilt(), 0);
        for (int part = 0; part < 10; part++) {
            due("made", x.made(part, 0), 0);
            due("lacking", x.made(part, 1), 0);
            due("worth", x.worth(part), 0);
            for (int what = 0; what < 3; what++) due("put", x.put(part, what, 0), 0);
        }
        for (int cls = 0; cls < 3; cls++) {
            due("cuttings", x.cuttings(cls), 1);
            due("value", x.value(cls), 0);
            due("shorts", x.shorts(cls), NOTHING);
            due("change", x.change(cls, 0), NONE);
        }
        for (int what = 0; what < 4; what++) due("given", x.given(what), 0);
        due("recall", x.recall(255, NONE), 0);
        due("drift", x.drift(0, 0, 0), NONE);
        due("drift", x.drift(0, 0, 1), 0);
        due("end", x.end(0), 0);
        due("end", x.end(1), NONE);
        due("skills", x.skills(0, 0), -2);
        due("again", x.again(0), -2);
        for (int k = 0; k < 2; k++) due("back", x.back(k), -2);
        due("objects do not share", new CutFloor().count(10), 0);
    }

    private static void settings() {
        at("2: carcasses: how many there were");
        CutFloor x = new CutFloor();
        allowed(x, "first", x.carcasses(1, 8), 0);
        allowed(x, "then", x.carcasses(1, 0), 8);
        allowed(x, "then", x.carcasses(1, 3), 0);
        at("2: carcasses: -1");
        refused(x, "class -1", x.carcasses(-1, 1), -1, 1);
        refused(x, "class 3", x.carcasses(3, 1), -1, 2);
        refused(x, "-1 of them", x.carcasses(0, -1), -1, 3);
        refused(x, "9 of them", x.carcasses(0, 9), -1, 4);
        refused(x, "extremes", x.carcasses(MIN, MAX), -1, 5);
        refused(x, "extremes", x.carcasses(0, MAX), -1, 6);
        at("2: carcasses: -3 more than 8 in all");
        allowed(x, "just 8", x.carcasses(2, 5), 0);
        refused(x, "9", x.carcasses(2, 6), -3, 1);
        refused(x, "9", x.carcasses(0, 1), -3, 2);
        due("nothing has changed", x.count(0), 8);
        at("3: weighs: what it was");
        allowed(x, "first", x.weighs(9, 2, 9999), 0);
        allowed(x, "then", x.weighs(9, 2, 1), 9999);
        at("3: weighs: -1");
        refused(x, "part 10", x.weighs(10, 0, 0), -1, 7);
        refused(x, "part -1", x.weighs(-1, 0, 0), -1, 8);
        refused(x, "class 3", x.weighs(0, 3, 0), -1, 9);
        refused(x, "class -1", x.weighs(0, -1, 0), -1, 10);
        refused(x, "10000", x.weighs(9, 2, 10_000), -1, 11);
        refused(x, "-1", x.weighs(9, 2, -1), -1, 12);
        due("nothing has changed", x.weighs(9, 2, 1), 1);
    }

    private static void putting() {
        CutFloor x = new CutFloor();
        at("4: put: what it was, of what 0, 1, 2 each");
        for (int what = 0; what < 3; what++) allowed(x, "first", x.put(3, what, 5 + what), 0);
        for (int what = 0; what < 3; what++) allowed(x, "then", x.put(3, what, 1), 5 + what);
        at("4: put: -1");
        refused(x, "part 10", x.put(10, 0, 0), -1, 1);
        refused(x, "part -1", x.put(-1, 0, 0), -1, 2);
        refused(x, "what 3", x.put(0, 3, 0), -1, 3);
        refused(x, "what -1", x.put(0, -1, 0), -1, 4);
        refused(x, "PRICE 1000", x.put(3, 0, 1000), -1, 5);
        refused(x, "OVER 1000", x.put(3, 1, 1000), -1, 6);
        refused(x, "ORDER 9", x.put(3, 2, 9), -1, 7);
        for (int what = 0; what < 3; what++) refused(x, "below", x.put(3, what, -1), -1, 8 + what);
        for (int what = 0; what < 3; what++) due("nothing has changed", x.put(3, what, 1), 1);
        at("4: put: -3 a sixth ORDER");
        for (int part = 4; part < 8; part++) allowed(x, "to five", x.put(part, 2, 8), 0);
        refused(x, "a sixth", x.put(8, 2, 1), -3, 1);
        due("five", x.count(7), 5);
        allowed(x, "not a sixth", x.put(8, 2, 0), 0);
        due("its WORTH", x.worth(8), NONE);
        CutFloor y = new CutFloor();
        for (int part = 0; part < 5; part++) y.put(part, 2, 1);
        y.image(0);
        y.put(0, 2, 0);
        y.back(0);
        refused(y, "a sixth behind back()", y.put(5, 2, 1), -3, 1);
    }

    private static void men() {
        CutFloor x = new CutFloor();
        at("5: man: his number");
        for (int i = 0; i < 4; i++) allowed(x, "man", x.man(15 - i), i);
        at("5: man: -5");
        refused(x, "a fifth", x.man(0), -5, 1);
        due("four", x.count(3), 4);
        at("5: man: -1");
        refused(x, "16", x.man(16), -1, 1);
        refused(x, "-1", x.man(-1), -1, 2);
        refused(x, "extreme", x.man(MIN), -1, 3);
        at("6: skills: what they were");
        for (int i = 0; i < 4; i++) allowed(x, "were", x.skills(i, i), 15 - i);
        for (int i = 0; i < 4; i++) allowed(x, "were", x.skills(i, 0), i);
        at("6: skills: -1");
        refused(x, "16", x.skills(0, 16), -1, 4);
        refused(x, "-1", x.skills(0, -1), -1, 5);
        at("6: skills: -2");
        CutFloor y = new CutFloor();
        refused(y, "no men", y.skills(0, 0), -2, 1);
        y.man(0);
        refused(y, "one man", y.skills(1, 0), -2, 2);
        refused(y, "man -1", y.skills(-1, 0), -2, 3);
        refused(y, "extreme", y.skills(MAX, 0), -2, 4);
        y.image(0);
        y.man(0);
        allowed(y, "the second", y.skills(1, 5), 0);
        y.back(0);
        refused(y, "gone with back()", y.skills(1, 0), -2, 5);
        at("7: terms: what it was");
        allowed(y, "DAY", y.terms(0, 99), 0);
        allowed(y, "DAY", y.terms(0, 0), 99);
        allowed(y, "LOSS", y.terms(1, 100), 5);
        allowed(y, "LOSS", y.terms(1, 0), 100);
        at("7: terms: -1");
        refused(y, "DAY 100", y.terms(0, 100), -1, 1);
        refused(y, "DAY -1", y.terms(0, -1), -1, 2);
        refused(y, "LOSS 101", y.terms(1, 101), -1, 3);
        refused(y, "LOSS -1", y.terms(1, -1), -1, 4);
        refused(y, "what 2", y.terms(2, 0), -1, 5);
        refused(y, "what -1", y.terms(-1, 0), -1, 6);
        due("nothing has changed", y.terms(0, 0) + y.terms(1, 0), 0);
    }

    private static void tape() {
        at("8: feed: four bytes of each number, the highest first");
        CutFloor x = new CutFloor();
        due("how many", x.feed(0x01020301, 0x05ff6364, 0x630317ff, 0x01000000, 0x0000ffff), 20);
        x.end(18);
        due("three boxes", x.row(), 3);
        int[][] want = {{1, 2, 3, 1, 5, 255, 1}, {99, 100, 99, 3, 23, 255, 1}, {1, 0, 0, 0, 0, 0, 1}};
        for (int box = 0; box < 3; box++) {
            for (int what = 0; what < 7; what++) due("fact " + what + " of " + box, x.of(box, what), want[box][what]);
        }
        at("8: feed: behind the TAPE");
        CutFloor y = new CutFloor();
        y.feed(0x63757430, 0x746f3120, 0x31787878, 0, 0);
        y.end(9);
        due("eleven bytes are gone", y.feed(0x3b736b69, 0x6c6c3120, 0x20202020, 0x20202020, 0x20202020), 29);
        due("two CLAUSES", y.tree(), 2);
        at("8: feed: NONE, if there would be more than 400");
        CutFloor z = new CutFloor();
        for (int i = 1; i <= 20; i++) due("feed", z.feed(i, i, i, i, i), 20 * i);
        due("420", z.feed(0, 0, 0, 0, 0), NONE);
        due("nothing came", z.count(8), 400);
        z.end(381);
        due("401", z.feed(0, 0, 0, 0, 0), NONE);
        due("nothing came", z.count(8), 381);
        z.end(380);
        due("400", z.feed(0, 0, 0, 0, 0), 400);
        due("not REFUSED", z.status(), 0);
        at("9: end: n");
        for (int n : new int[] {400, 399, 21, 20, 1, 0}) {
            due("end", z.end(n), n);
            due("bytes", z.count(8), n);
        }
        at("9: end: NONE, if it has not so many");
        due("1 of 0", z.end(1), NONE);
        z.feed(0, 0, 0, 0, 0);
        due("21 of 20", z.end(21), NONE);
        due("extreme", z.end(MAX), NONE);
        due("bytes", z.count(8), 20);
        at("9: end: NONE, if n is below 0");
        due("-1", z.end(-1), NONE);
        due("extreme", z.end(MIN), NONE);
        due("bytes", z.count(8), 20);
        due("not REFUSED", z.count(9), 0);
    }

    private static void trees() {
        at("10: tree: the TAPE is empty then");
        CutFloor x = new CutFloor();
        allowed(x, "good", read(x, FEW_WAYS), 4);
        due("empty", x.count(8), 0);
        refused(x, "bad", read(x, "cut 0"), -6, 1);
        due("empty", x.count(8), 0);
        at("10: tree: -6: the one before stays");
        due("CLAUSES", x.count(1), 4);
        due("WAYS", x.count(2), 2);
        due("PIECES", x.way(1, 13), 3);
        due("CUTTINGS", x.cuttings(0), 3);
        due("SKILL", x.goes(1, 0, 2), 1);
        refused(x, "bad behind good CLAUSES", read(x, "cut 0 to 9 9;cut 0 to 8 8;skill 2;?"), -6, 2);
        due("PIECES", x.way(0, 11), 2);
        due("SKILL", x.goes(0, 0, 2), 0);
        at("10: tree: -6: blanks alone");
        refused(x, "no byte", x.tree(), -6, 3);
        due("FAULT at the end", x.fault(), 0);
        for (int n : new int[] {1, 20, 400}) {
            feedText(x, times(" ", n));
            due("blanks", x.tree(), -6);
            due("FAULT at the end", x.fault(), n);
        }
        due("the one before stays", x.count(1), 4);
        at("10: tree: another takes its place");
        allowed(x, "one CLAUSE", read(x, "skill 2"), 1);
        due("no WAYS", x.count(2), 0);
        due("no WAY", x.way(0, 0), NONE);
        due("one CUTTING", x.cuttings(0), 1);
        at("11: fault: NONE without");
        due("behind a good one", x.fault(), NONE);
        due("ahead of any", new CutFloor().fault(), NONE);
        at("11: fault: of the latest tree()");
        read(x, "cut 0 to 1 0");
        due("its place", x.fault(), 11);
        read(x, "?");
        due("its place", x.fault(), 0);
        x.row();
        x.feed(0, 0, 0, 0, 0);
        due("it stays", x.fault(), 0);
        read(x, "skill 1");
        due("none again", x.fault(), NONE);
    }

    private static void ways() {
        CutFloor x = hall("cut 3 to 9 4 and 9 9 and 9 4;cut 0 to 1 9");
        at("12: way: its PART");
        due("way 0", x.way(0, 0), 3);
        due("way 1", x.way(1, 0), 0);
        at("12: way: PIECES of a PART 0 .. 9 (10 + PART)");
        int[] want = {0, 0, 0, 0, 18, 0, 0, 0, 0, 9};
        for (int part = 0; part < 10; part++) due("of part " + part, x.way(0, 10 + part), want[part]);
        due("of part 9", x.way(1, 19), 1);
        at("12: way: NONE");
        for (int what : new int[] {MIN, -1, 1, 2, 9, 20, 21, MAX}) due("what " + what, x.way(0, what), NONE);
        for (int way : new int[] {MIN, -1, 2, 16, MAX}) {
            due("way " + way, x.way(way, 0), NONE);
            due("way " + way, x.way(way, 10), NONE);
        }
        at("13: goes: NOTHING without");
        for (int what = 0; what < 5; what++) {
            for (int way : new int[] {MIN, -1, 2, 16, MAX}) due("way " + way, x.goes(way, 0, what), NOTHING);
            for (int cls : new int[] {MIN, -1, 3, MAX}) due("class " + cls, x.goes(0, cls, what), NOTHING);
        }
        for (int what : new int[] {MIN, -1, 5, MAX}) due("what " + what, x.goes(0, 0, what), NOTHING);
        at("13: goes: what it WASTES, far below 0");
        x.weighs(4, 2, 9999);
        x.weighs(9, 2, 9999);
        due("27 pieces of 9999", x.goes(0, 2, 3), -27 * 9999);
        CutFloor y = hall("cut 0 to 9 9" + times("and9 9", 64));
        y.weighs(9, 0, 9999);
        due("585 pieces of 9999", y.goes(0, 0, 3), -585 * 9999);
        due("OFF", y.goes(0, 0, 4), 1);
        y.weighs(0, 1, 9999);
        due("all of 9999", y.goes(0, 1, 3), 9999);
        due("OFF", y.goes(0, 1, 4), 1);
    }

    private static void cuttings() {
        CutFloor x = hall(crowdedForOne());
        CutFloor y = hall(FEW_WAYS);
        at("14: cuttings: 65 if there are more than 64");
        due("many more", x.cuttings(1), 65);
        due("of another CLASS", x.cuttings(0), 1);
        CutFloor just = hall(times("cut0to1 1;", 7) + times("cut1to1 2;", 8) + "cut0to1 3if class=1");
        due("just 64", just.cuttings(0), 64);
        due("just 65", just.cuttings(1), 65);
        due("the last of 64", just.choice(0, 63, 1), 14);
        due("none of 65", just.choice(1, 0, 0), NOTHING);
        at("14: cuttings: NONE");
        for (int cls : new int[] {MIN, -1, 3, MAX}) due("class " + cls, y.cuttings(cls), NONE);
        at("15: choice: NONE: left, or it does not come");
        due("left", y.choice(0, 0, 0), NONE);
        due("left", y.choice(0, 1, 1), NONE);
        due("does not come", y.choice(0, 0, 1), NONE);
        due("can't be cut", y.choice(0, 2, 9), NONE);
        at("15: choice: NOTHING without");
        for (int i : new int[] {MIN, -1, 3, 63, 64, MAX}) due("cutting " + i, y.choice(0, i, 0), NOTHING);
        for (int cls : new int[] {MIN, -1, 3, MAX}) due("class " + cls, y.choice(cls, 0, 0), NOTHING);
        for (int part : new int[] {MIN, -1, 10, MAX}) due("part " + part, y.choice(0, 0, part), NOTHING);
        at("15: choice: NOTHING if there are more than 64, too");
        for (int i : new int[] {0, 63, 64}) due("cutting " + i, x.choice(1, i, 0), NOTHING);
        at("16: left: NONE");
        for (int i : new int[] {MIN, -1, 3, 63, 64, MAX}) due("cutting " + i, y.left(0, i, 0), NONE);
        for (int cls : new int[] {MIN, -1, 3, MAX}) due("class " + cls, y.left(cls, 0, 0), NONE);
        for (int part : new int[] {MIN, -1, 10, MAX}) due("part " + part, y.left(0, 0, part), NONE);
        for (int i : new int[] {0, 63, 64}) due("more than 64: cutting " + i, x.left(1, i, 0), NONE);
        at("16: left: none of it");
        due("the carcass that is cut", y.left(0, 1, 0), 0);
        due("what is cut further", y.left(0, 2, 1), 0);
        due("what does not come", y.left(0, 0, 9), 0);
    }

    private static void bestAndFirst() {
        CutFloor x = shop();
        CutFloor none = noPlan();
        CutFloor empty = new CutFloor();
        at("17: best: NONE (there is no PLAN)");
        due("brings", none.best(0), NONE);
        due("plans", none.best(1), NONE);
        none.carcasses(1, 0);
        due("brings", none.best(0), 0);
        none.carcasses(1, 1);
        due("brings", none.best(0), NONE);
        at("17: best: NONE");
        for (int what : new int[] {MIN, -1, 2, MAX}) due("what " + what, x.best(what), NONE);
        at("17: best: no CARCASSES");
        due("brings", empty.best(0), 0);
        due("one PLAN that tells nothing", empty.best(1), 1);
        at("18: plan: NONE");
        for (int i : new int[] {MIN, -1, 2, 7, 8, MAX}) due("carcass " + i, x.plan(i), NONE);
        due("no CARCASSES", empty.plan(0), NONE);
        due("no PLAN", none.plan(0), NONE);
        x.carcasses(2, 6);
        due("the eighth", x.plan(7) >= 0 ? 1 : 0, 1);
        due("the ninth", x.plan(8), NONE);
        x.carcasses(2, 0);
        at("19: made: that an ORDER wants and has not");
        due("one of three", x.made(1, 1), 1);
        x.put(1, 2, 2);
        due("none of two", x.made(1, 1), 0);
        x.put(1, 0, 99);
        x.put(1, 2, 1);
        due("two", x.made(1, 0), 2);
        due("never below none", x.made(1, 1), 0);
        x.put(9, 2, 8);
        due("all of eight", x.made(9, 1), 8);
        due("none there", x.made(9, 0), 0);
        at("19: made: NONE");
        for (int part : new int[] {MIN, -1, 10, MAX}) due("part " + part, x.made(part, 0), NONE);
        for (int what : new int[] {MIN, -1, 2, MAX}) due("what " + what, x.made(0, what), NONE);
        due("no PLAN", none.made(0, 0), NONE);
        due("no PLAN", none.made(0, 1), NONE);
    }

    private static void worths() {
        CutFloor x = shop();
        CutFloor none = noPlan();
        at("20: value: NONE (no PLAN)");
        for (int cls = 0; cls < 3; cls++) due("class " + cls, none.value(cls), NONE);
        at("20: value: NONE (8 CARCASSES are there)");
        x.carcasses(1, 5);
        due("7", x.value(0) >= 0 ? 1 : 0, 1);
        x.carcasses(1, 6);
        for (int cls = 0; cls < 3; cls++) due("8", x.value(cls), NONE);
        at("20: value: NONE");
        for (int cls : new int[] {MIN, -1, 3, MAX}) due("class " + cls, shop().value(cls), NONE);
        at("20: value: the CARCASSES stay");
        x = shop();
        due("value", x.value(0), 13);
        due("carcasses", x.count(0), 2);
        due("best", x.best(0), 34);
        at("21: shorts: NOTHING (none of it)");
        due("class 1", x.shorts(1), NOTHING);
        due("class 2", x.shorts(2), NOTHING);
        x.carcasses(1, 1);
        due("one of it", x.shorts(1), 13);
        at("21: shorts: NOTHING (no PLAN)");
        for (int cls = 0; cls < 3; cls++) due("class " + cls, none.shorts(cls), NOTHING);
        at("21: shorts: NOTHING");
        for (int cls : new int[] {MIN, -1, 3, MAX}) due("class " + cls, x.shorts(cls), NOTHING);
        at("21: shorts: the only one, and one of eight");
        CutFloor y = new CutFloor();
        y.put(0, 1, 9);
        y.carcasses(2, 1);
        due("the only one", y.shorts(2), 9);
        y.carcasses(2, 8);
        due("one of eight", y.shorts(2), 9);
        due("eight are there still", y.best(0), 72);
        at("22: worth: NONE (its ORDER is 8)");
        y.put(0, 0, 10);
        y.put(0, 2, 7);
        due("7", y.worth(0), 1);
        y.put(0, 2, 8);
        due("8", y.worth(0), NONE);
        at("22: worth: NONE (it would be a sixth ORDER)");
        for (int part = 1; part < 4; part++) y.put(part, 2, 1);
        due("a fifth", y.worth(9), 0);
        y.put(4, 2, 1);
        due("a sixth", y.worth(9), NONE);
        due("one of five", y.worth(4), 0);
        at("22: worth: NONE (no PLAN)");
        for (int part = 0; part < 10; part++) due("part " + part, none.worth(part), NONE);
        at("22: worth: NONE");
        for (int part : new int[] {MIN, -1, 10, MAX}) due("part " + part, x.worth(part), NONE);
        at("22: worth: the ORDER stays");
        y.put(0, 2, 3);
        due("worth", y.worth(0), 1);
        due("best", y.best(0), 8 * 9 + 3);
        due("order", y.put(0, 2, 3), 3);
    }

    private static void changes() {
        CutFloor x = shop();
        CutFloor none = noPlan();
        at("23: change: NONE (none of the CLASS)");
        for (int what = 0; what < 2; what++) {
            due("class 1", x.change(1, what), NONE);
            due("class 2", x.change(2, what), NONE);
        }
        at("23: change: NONE (no PLAN)");
        for (int cls = 0; cls < 3; cls++) due("class " + cls, none.change(cls, 0), NONE);
        at("23: change: NONE");
        for (int cls : new int[] {MIN, -1, 3, MAX}) due("class " + cls, x.change(cls, 0), NONE);
        for (int what : new int[] {MIN, -1, 2, MAX}) due("what " + what, x.change(0, what), NONE);
        at("23: change: the only carcass");
        x.carcasses(0, 1);
        due("how many", x.change(0, 0), 0);
        due("what nobody brings", x.change(0, 1), 0);
        due("the carcass is there still", x.best(0), 21);
        at("24: give: which it had");
        CutFloor y = shop();
        for (int i = 0; i < 8; i++) allowed(y, "first", y.give(i, 63), 0);
        for (int i = 0; i < 8; i++) allowed(y, "then", y.give(i, 0), 63);
        at("24: give: -1");
        refused(y, "carcass 8", y.give(8, 0), -1, 1);
        refused(y, "carcass -1", y.give(-1, 0), -1, 2);
        refused(y, "cutting 64", y.give(0, 64), -1, 3);
        refused(y, "cutting -1", y.give(0, -1), -1, 4);
        refused(y, "extremes", y.give(MAX, MIN), -1, 5);
        due("nothing has changed", y.give(0, 0), 0);
        at("25: given: NONE (no PLAN)");
        for (int what = 0; what < 4; what++) due("what " + what, none.given(what), NONE);
        at("25: given: NONE");
        for (int what : new int[] {MIN, -1, 4, MAX}) due("what " + what, y.given(what), NONE);
        at("25: given: the FIRST itself");
        y.give(0, 1);
        y.give(1, 2);
        due("brings", y.given(0), 34);
        due("nothing less", y.given(1), 0);
        due("nowhere otherwise", y.given(2), 0);
        at("25: given: how many PARTS ORDERS want and have not");
        due("one", y.given(3), 1);
        y.put(9, 2, 8);
        due("one and eight", y.given(3), 9);
        y.put(2, 2, 1);
        due("more than are wanted do not count", y.given(3), 9);
        y.carcasses(0, 0);
        due("no CARCASSES", y.given(3), 3 + 8 + 1);
        due("no CARCASSES", y.given(2), 0);
    }

    private static void sharing() {
        CutFloor x = shop();
        CutFloor none = noPlan();
        at("26: task: 0: it is not gone");
        due("way 1", x.task(1), 10);
        x.put(3, 1, 0);
        x.put(1, 2, 8);
        due("way 1", x.task(1), 0);
        at("26: task: of all TASKS (way NONE)");
        due("way 0 alone", x.task(NONE), 10);
        x.carcasses(0, 0);
        due("no CARCASSES", x.task(NONE), 0);
        due("no CARCASSES", x.task(0), 0);
        at("26: task: NONE");
        for (int way : new int[] {MIN, -2, 2, 16, MAX}) due("way " + way, x.task(way), NONE);
        due("there are no WAYS", new CutFloor().task(0), NONE);
        due("but all of them", new CutFloor().task(NONE), 0);
        due("no PLAN", none.task(NONE), NONE);
        due("no PLAN", none.task(0), NONE);
        CutFloor y = shop();
        at("27: share: NONE (one whose SKILL nobody has)");
        due("no men", y.share(NONE), NONE);
        y.man(1);
        due("nobody has SKILL 1", y.share(NONE), NONE);
        due("nor is the other TASK shared", y.share(0), NONE);
        y.man(2);
        due("now one has", y.share(NONE), 10);
        due("he does it", y.share(1), 1);
        y.skills(0, 0);
        due("nobody has SKILL 0", y.share(1), NONE);
        y.skills(0, 1);
        at("27: share: NONE (it is no TASK)");
        y.put(3, 1, 0);
        y.put(1, 2, 8);
        due("way 1", y.share(1), NONE);
        due("way 0", y.share(0), 0);
        due("longest", y.share(NONE), 10);
        at("27: share: no TASK at all");
        y.carcasses(0, 0);
        due("longest", y.share(NONE), 0);
        due("way 0", y.share(0), NONE);
        due("longest without men", new CutFloor().share(NONE), 0);
        at("27: share: NONE (no PLAN)");
        none.man(15);
        due("longest", none.share(NONE), NONE);
        due("way 0", none.share(0), NONE);
        at("27: share: NONE");
        y = shop();
        y.man(15);
        due("longest", y.share(NONE), 20);
        for (int way : new int[] {MIN, -2, 2, 16, MAX}) due("way " + way, y.share(way), NONE);
        at("27: share: a TASK of 0 MINUTES is one");
        CutFloor z = hall("cut 0 to 1 1;minutes 0;skill 3");
        z.put(1, 1, 1);
        z.carcasses(0, 1);
        z.man(7);
        due("nobody has SKILL 3", z.share(NONE), NONE);
        z.man(8);
        due("longest", z.share(NONE), 0);
        due("who", z.share(0), 1);
    }

    private static void boxes() {
        at("28: box: its number");
        CutFloor x = new CutFloor();
        for (int i = 0; i < 16; i++) allowed(x, "box", x.box(1 + i, 2 * i, i, i % 4, i, 1 << i % 8), i);
        at("28: box: -5");
        refused(x, "a seventeenth", x.box(1, 1, 1, 1, 1, 1), -5, 1);
        due("sixteen", x.count(5), 16);
        due("the last is as it was", x.of(15, 0), 16);
        at("28: box: -1");
        int[][] bad = {{0, 0, 0, 0, 0, 0}, {100, 0, 0, 0, 0, 0}, {1, -1, 0, 0, 0, 0}, {1, 101, 0, 0, 0, 0}, {1, 0, -1, 0, 0, 0},
            {1, 0, 100, 0, 0, 0}, {1, 0, 0, -1, 0, 0}, {1, 0, 0, 4, 0, 0}, {1, 0, 0, 0, -1, 0}, {1, 0, 0, 0, 24, 0},
            {1, 0, 0, 0, 0, -1}, {1, 0, 0, 0, 0, 256}, {MIN, MAX, MIN, MAX, MIN, MAX}};
        CutFloor y = new CutFloor();
        int n = 0;
        for (int[] b : bad) refused(y, "bad", y.box(b[0], b[1], b[2], b[3], b[4], b[5]), -1, ++n);
        due("none came", y.count(5), 0);
        at("29: of: whether it is there (1, 0)");
        for (int i = 0; i < 16; i++) due("there", x.of(i, 6), 1);
        x.send(1, 0, 0, 0);
        due("sent", x.of(0, 6), 0);
        due("all else stays", x.of(0, 0), 1);
        due("the next", x.of(1, 6), 1);
        x.again(0);
        due("there again", x.of(0, 6), 1);
        at("29: of: NONE");
        for (int box : new int[] {MIN, -1, 16, MAX}) due("box " + box, x.of(box, 0), NONE);
        for (int what : new int[] {MIN, -1, 7, MAX}) due("what " + what, x.of(0, what), NONE);
        due("box 0 of none", y.of(0, 0), NONE);
        y.box(1, 1, 1, 1, 1, 1);
        due("box 1 of one", y.of(1, 0), NONE);
    }

    private static void rows() {
        CutFloor x = new CutFloor();
        at("30: row: -6 the TAPE is empty");
        refused(x, "at first", x.row(), -6, 1);
        x.feed(0, 0, 0, 0, 0);
        x.end(0);
        refused(x, "ended", x.row(), -6, 2);
        feedText(x, "cut 0");
        x.tree();
        refused(x, "behind tree()", x.row(), -6, 4);
        at("30: row: the TAPE is empty then");
        feedText(x, bytes(1, 2, 3, 0, 5, 6, 9));
        allowed(x, "one", x.row(), 1);
        due("bytes", x.count(8), 0);
        refused(x, "once more", x.row(), -6, 5);
        at("30: row: none came, not REFUSED");
        feedText(x, bytes(0));
        allowed(x, "none", x.row(), 0);
        due("spoilt", x.spoilt(), 1);
        due("one box", x.count(5), 1);
        at("31: spoilt: in the latest row() that was not REFUSED");
        feedText(x, bytes(0, 0, 0, 0, 0, 0, 0, 0));
        x.row();
        due("two", x.spoilt(), 2);
        x.row();
        due("a refused one does not count", x.spoilt(), 2);
        feedText(x, bytes(1, 0, 0, 0, 0, 0));
        x.row();
        due("none", x.spoilt(), 0);
        at("31: spoilt: 0 ahead of any");
        CutFloor y = new CutFloor();
        due("at first", y.spoilt(), 0);
        y.row();
        due("behind a refused one", y.spoilt(), 0);
        at("31: spoilt: all of a full hall");
        CutFloor full = fullOfBoxes();
        feedText(full, times(bytes(1, 0, 0, 0, 0, 0), 66) + bytes(1, 0, 0, 0));
        due("none came", full.row(), 0);
        due("all", full.spoilt(), 67);
        due("sixteen", full.count(5), 16);
    }

    private static void mixing() {
        CutFloor x = new CutFloor();
        x.box(1, 0, 0, 0, 0, 0);
        x.box(99, 100, 0, 0, 0, 0);
        at("32: mix: from .. to (1 .. 1,584)");
        due("1 .. 1", x.mix(1, 1, 0, 2), 1);
        due("1 .. 1584", x.mix(1, 1584, 0, 2), 3);
        due("1584 .. 1584", x.mix(1584, 1584, 0, 2), 0);
        for (int bad : new int[] {MIN, -1, 0, 1585, MAX}) {
            for (int what = 0; what < 3; what++) {
                due("from " + bad, x.mix(bad, 1584, 0, what), NONE);
                due("to " + bad, x.mix(1, bad, 0, what), NONE);
            }
        }
        at("32: mix: lean 0 .. 100");
        due("0", x.mix(1, 1, 0, 2), 1);
        due("100", x.mix(1, 1584, 100, 2), 1);
        due("1 to 99 are 99 of a hundred", x.mix(100, 100, 99, 0), 0);
        for (int bad : new int[] {MIN, -1, 101, MAX}) due("lean " + bad, x.mix(1, 1584, bad, 2), NONE);
        at("32: mix: NONE");
        for (int bad : new int[] {MIN, -1, 3, MAX}) due("what " + bad, x.mix(1, 1584, 0, bad), NONE);
        at("32: mix: how many MIXES there are at all (2; 0 without)");
        due("none weighs so", x.mix(2, 98, 0, 2), 0);
        due("no boxes", new CutFloor().mix(1, 1584, 0, 2), 0);
        at("32: mix: NONE without");
        for (int what = 0; what < 2; what++) {
            due("none weighs so", x.mix(2, 98, 0, what), NONE);
            due("no boxes", new CutFloor().mix(1, 1584, 0, what), NONE);
        }
        at("32: mix: from beyond to");
        due("how many", x.mix(2, 1, 0, 2), 0);
        due("away", x.mix(2, 1, 0, 0), NONE);
        at("32: mix: nothing GIVEN AWAY is 0");
        due("0 is a mix", x.mix(1, 1, 0, 0), 0);
        due("its bits", x.mix(1, 1, 0, 1), 1);
    }

    private static void sending() {
        CutFloor x = fullOfBoxes();
        at("33: send: n BOXES (1 .. 16)");
        int n = 0;
        for (int bad : new int[] {MIN, -1, 0, 17, MAX}) refused(x, "n " + bad, x.send(bad, 50, 0, 99), -1, ++n);
        at("33: send: on a DAY (0 .. 99)");
        for (int bad : new int[] {MIN, -1, 100, MAX}) refused(x, "day " + bad, x.send(1, bad, 0, 99), -1, ++n);
        at("33: send: least .. most DAYS old (0 .. 99)");
        for (int bad : new int[] {MIN, -1, 100, MAX}) {
            refused(x, "least " + bad, x.send(1, 50, bad, 99), -1, ++n);
            refused(x, "most " + bad, x.send(1, 50, 0, bad), -1, ++n);
        }
        due("all are there", x.count(4), 16);
        at("33: send: least beyond most: none are such");
        allowed(x, "none", x.send(16, 20, 9, 8), 0);
        at("33: send: one, and all sixteen");
        allowed(x, "one", x.send(1, 99, 0, 99), 1);
        allowed(x, "all others", x.send(16, 99, 0, 99), 65534);
        allowed(x, "none", x.send(16, 99, 0, 99), 0);
        due("none is there", x.count(4), 0);
        at("34: again: it is there again: 0");
        allowed(x, "box 0", x.again(0), 0);
        allowed(x, "box 15", x.again(15), 0);
        due("two are there", x.count(4), 2);
        at("34: again: -3 it is there");
        refused(x, "box 0", x.again(0), -3, 1);
        refused(x, "box 15", x.again(15), -3, 2);
        at("34: again: -2");
        refused(x, "box 16", x.again(16), -2, 1);
        refused(x, "box -1", x.again(-1), -2, 2);
        refused(x, "extreme", x.again(MAX), -2, 3);
        refused(x, "extreme", x.again(MIN), -2, 4);
        CutFloor y = new CutFloor();
        refused(y, "no boxes", y.again(0), -2, 1);
    }

    private static void recalls() {
        CutFloor x = fullOfBoxes();
        at("35: recall: NONE (CARCASSES 0 .. 255)");
        for (int bad : new int[] {MIN, -1, 256, MAX}) {
            due("carcasses " + bad, x.recall(bad, NONE), NONE);
            due("carcasses " + bad, x.recall(bad, 0), NONE);
        }
        due("0", x.recall(0, NONE), 0);
        due("255", x.recall(255, NONE), 65535);
        at("35: recall: the ROUND of a BOX (NONE: it is not)");
        due("box 0", x.recall(1, 0), 0);
        due("box 8", x.recall(1, 8), 0);
        due("box 1", x.recall(1, 1), NONE);
        due("box 15", x.recall(128, 15), 0);
        at("35: recall: NONE");
        for (int bad : new int[] {MIN, -2, 16, MAX}) due("box " + bad, x.recall(255, bad), NONE);
        due("no boxes", new CutFloor().recall(255, 0), NONE);
        at("35: recall: no BOXES");
        due("none", new CutFloor().recall(255, NONE), 0);
        at("36: yields: how many there are");
        CutFloor y = new CutFloor();
        for (int i = 1; i <= 40; i++) allowed(y, "yield", y.yields(i, i), i);
        at("36: yields: -5");
        refused(y, "one more", y.yields(999, 0), -5, 1);
        due("forty", y.count(6), 40);
        due("it did not count", y.drift(0, 0, 1), 0);
        at("36: yields: -1");
        refused(y, "told 1000", y.yields(1000, 0), -1, 1);
        refused(y, "told -1", y.yields(-1, 0), -1, 2);
        refused(y, "got 1000", y.yields(0, 1000), -1, 3);
        refused(y, "got -1", y.yields(0, -1), -1, 4);
        refused(y, "extremes", y.yields(MIN, MAX), -1, 5);
        at("37: drift: ALLOW 0 .. 99");
        CutFloor z = new CutFloor();
        z.yields(100, 0);
        due("0", z.drift(0, 0, 1), 100);
        due("99", z.drift(99, 0, 1), 1);
        for (int bad : new int[] {MIN, -1, 100, MAX}) due("allow " + bad, z.drift(bad, 0, 1), NONE);
        at("37: drift: LIMIT 0 .. 9999");
        due("0", z.drift(0, 0, 0), 0);
        due("99", z.drift(0, 99, 0), 0);
        due("9999", z.drift(0, 9999, 1), 100);
        for (int bad : new int[] {MIN, -1, 10_000, MAX}) due("limit " + bad, z.drift(0, bad, 1), NONE);
        at("37: drift: NONE: none");
        due("100 is not above 100", z.drift(0, 100, 0), NONE);
        due("no yields", new CutFloor().drift(0, 0, 0), NONE);
        at("37: drift: the greatest the sum is at all");
        due("no yields", new CutFloor().drift(0, 0, 1), 0);
        at("37: drift: NONE");
        for (int bad : new int[] {MIN, -1, 2, MAX}) due("what " + bad, z.drift(0, 0, bad), NONE);
    }

    private static void weeks() {
        CutFloor x = new CutFloor();
        x.put(0, 1, 7);
        x.carcasses(0, 2);
        at("39: came: NONE ahead of any");
        due("day 0", x.came(0, 0), NONE);
        refused(x, "week -1", x.week(-1), -1, 1);
        due("a refused one does not count", x.came(0, 0), NONE);
        at("38: week: what it brings");
        allowed(x, "seed 5", x.week(5), 42);
        at("38: week: -1");
        refused(x, "-1", x.week(-1), -1, 2);
        refused(x, "1,000,001", x.week(1_000_001), -1, 3);
        refused(x, "extreme", x.week(MAX), -1, 4);
        refused(x, "extreme", x.week(MIN), -1, 5);
        due("the latest stays", x.came(2, 0), 2);
        at("38: week: -3 there is no PLAN on one of its DAYS");
        CutFloor y = hall(crowdedForOne());
        y.carcasses(0, 1);
        allowed(y, "none of CLASS 1", y.week(3), 0);
        int came = y.came(1, 0);
        y.carcasses(1, 7);
        refused(y, "some of CLASS 1", y.week(3), -3, 1);
        due("the latest stays", y.came(1, 0), came);
        for (int day = 0; day < 5; day++) due("the latest stays", y.came(day, 1), 0);
        at("38: week: none of a CLASS comes on any of its DAYS");
        y.carcasses(1, 1);
        int without = 0;
        for (int seed = 0; seed < 200; seed++) {
            boolean comes = false;
            long s = seed;
            for (int i = 0; i < 15; i++) {
                s = (s * 1103 + 12345) % 1_000_003;
                comes |= i % 3 == 1 && s % 2 == 1;
            }
            due("seed " + seed, y.week(seed), comes ? -3 : 0);
            if (!comes) without++;
        }
        due("some seeds are such", without > 0 && without < 200 ? 1 : 0, 1);
        at("39: came: on a DAY 0 .. 4");
        for (int day : new int[] {MIN, -1, 5, MAX}) due("day " + day, x.came(day, 0), NONE);
        due("day 0", x.came(0, 0), 1);
        due("day 4", x.came(4, 0) >= 0 ? 1 : 0, 1);
        at("39: came: NONE");
        for (int cls : new int[] {MIN, -1, 3, MAX}) due("class " + cls, x.came(0, cls), NONE);
        due("class 2", x.came(0, 2), 0);
        at("39: came: of the latest WEEK, whatever stands now");
        x.carcasses(0, 0);
        due("as it was", x.came(2, 0), 2);
        x.week(5);
        due("another", x.came(2, 0), 0);
    }

    private static void images() {
        CutFloor x = new CutFloor();
        at("40: image: -1");
        int n = 0;
        for (int bad : new int[] {MIN, -1, 2, MAX}) refused(x, "image " + bad, x.image(bad), -1, ++n);
        at("41: back: -1");
        for (int bad : new int[] {MIN, -1, 2, MAX}) refused(x, "image " + bad, x.back(bad), -1, ++n);
        at("41: back: -2 it was not kept");
        refused(x, "image 0", x.back(0), -2, 1);
        refused(x, "image 1", x.back(1), -2, 2);
        at("40: image: kept: 0");
        allowed(x, "image 1", x.image(1), 0);
        refused(x, "the other is not", x.back(0), -2, 3);
        allowed(x, "the one is", x.back(1), 0);
        at("40: image: kept anew");
        x.man(1);
        allowed(x, "image 1", x.image(1), 0);
        x.man(2);
        allowed(x, "back", x.back(1), 0);
        due("one man", x.count(3), 1);
        at("41: back: all that it keeps is as it was then");
        CutFloor y = full();
        int[] before = asked(y);
        y.image(0);
        unmake(y);
        int[] between = asked(y);
        due("back", y.back(0), 0);
        int[] after = asked(y);
        for (int i = 0; i < before.length; i++) {
            due("question " + i, after[i], before[i]);
            due("question " + i + " was answered otherwise", before[i] == between[i] ? 1 : 0, 0);
        }
    }

    /** Something of all that an IMAGE keeps. */
    private static CutFloor full() {
        CutFloor x = shop();
        x.weighs(0, 0, 100);
        x.terms(0, 4);
        x.terms(1, 7);
        x.man(3);
        x.box(9, 9, 1, 1, 1, 1);
        x.box(8, 8, 1, 1, 1, 1);
        x.send(1, 1, 0, 0);
        x.yields(9, 1);
        x.give(1, 1);
        return x;
    }

    private static void unmake(CutFloor x) {
        read(x, "skill 3");
        x.carcasses(0, 1);
        x.weighs(0, 0, 99);
        x.put(1, 0, 11);
        x.put(3, 1, 3);
        x.put(1, 2, 4);
        x.skills(0, 2);
        x.man(1);
        x.terms(0, 5);
        x.terms(1, 8);
        x.again(0);
        x.box(7, 7, 1, 1, 1, 1);
        x.yields(9, 2);
        x.give(1, 2);
    }

    /** Each is answered otherwise when all is unmade; what is asked by setting it anew is set as it was. */
    private static int[] asked(CutFloor x) {
        int[] answers = {x.count(0), x.count(1), x.count(2), x.count(3), x.count(4), x.count(5), x.count(6), x.of(0, 6), x.of(2, 0),
            x.drift(0, 0, 1), x.way(0, 0), x.cuttings(0), x.best(0), x.plan(1), x.share(NONE), x.mix(1, 99, 0, 2),
            x.weighs(0, 0, 0), x.put(1, 0, 0), x.put(3, 1, 0), x.put(1, 2, 0), x.skills(0, 0), x.terms(0, 0), x.terms(1, 0),
            x.give(1, 0)};
        int last = answers.length - 8;
        x.weighs(0, 0, answers[last]);
        x.put(1, 0, answers[last + 1]);
        x.put(3, 1, answers[last + 2]);
        x.put(1, 2, answers[last + 3]);
        x.skills(0, answers[last + 4]);
        x.terms(0, answers[last + 5]);
        x.terms(1, answers[last + 6]);
        x.give(1, answers[last + 7]);
        return answers;
    }

    private static void counting() {
        CutFloor x = new CutFloor();
        at("42: count: NONE for others");
        for (int bad : new int[] {MIN, -1, 14, 15, MAX}) due("what " + bad, x.count(bad), NONE);
        String[] names = {"-1", "-2", "-3", "-5", "-6"};
        for (int what = 9; what <= 13; what++) {
            at("42: count: how many calls were REFUSED by " + names[what - 9]);
            CutFloor y = new CutFloor();
            y.carcasses(0, 8);
            for (int i = 0; i < 4; i++) y.man(0);
            for (int i = 0; i < 3; i++) {
                int got = what == 9 ? y.man(16) : what == 10 ? y.again(0) : what == 11 ? y.carcasses(1, 1) : what == 12 ? y.man(0) : y.row();
                refused(y, "refusal " + i, got, Integer.parseInt(names[what - 9]), i + 1);
            }
            for (int other = 9; other <= 13; other++) due("count " + other, y.count(other), other == what ? 3 : 0);
            y.image(0);
            y.again(5);
            y.back(0);
            due("an IMAGE does not keep that", y.count(what), what == 10 ? 4 : 3);
        }
        at("42: count: what answers NONE is not REFUSED");
        CutFloor z = new CutFloor();
        z.end(-1);
        z.way(0, 0);
        z.goes(0, 0, 0);
        z.cuttings(3);
        z.best(2);
        z.value(3);
        z.given(4);
        z.of(0, 0);
        z.mix(0, 0, 0, 0);
        z.recall(-1, 0);
        z.drift(-1, 0, 0);
        z.came(0, 0);
        z.count(14);
        for (int what = 9; what <= 13; what++) due("count " + what, z.count(what), 0);
        due("status", z.status(), 0);
        at("42: count: 4 BOXES that are there, 5 BOXES");
        CutFloor b = fullOfBoxes();
        due("there", b.count(4), 16);
        due("all", b.count(5), 16);
        b.send(16, 99, 0, 99);
        due("there", b.count(4), 0);
        due("all", b.count(5), 16);
    }

    private static void statuses() {
        at("43: status: 0 ahead of any");
        CutFloor x = new CutFloor();
        due("ahead", x.status(), 0);
        at("43: status: other calls leave it");
        x.again(0);
        x.feed(0, 0, 0, 0, 0);
        x.end(0);
        x.fault();
        x.way(0, 0);
        x.goes(0, 0, 0);
        x.cuttings(0);
        x.choice(0, 0, 0);
        x.left(0, 0, 0);
        x.best(0);
        x.plan(0);
        x.made(0, 0);
        x.value(0);
        x.shorts(0);
        x.worth(0);
        x.change(0, 0);
        x.given(0);
        x.task(NONE);
        x.share(NONE);
        x.of(0, 0);
        x.spoilt();
        x.mix(1, 1, 0, 0);
        x.recall(0, NONE);
        x.drift(0, 0, 0);
        x.came(0, 0);
        x.count(0);
        due("still", x.status(), -2);
        due("asked again", x.status(), -2);
        at("43: status: 0 if it was not");
        String[] names = {"carcasses", "weighs", "put", "man", "skills", "terms", "tree", "give", "box", "row", "send", "again", "yields",
            "week", "image", "back"};
        for (int call = 0; call < names.length; call++) {
            x.again(99);
            due("ahead of " + names[call], x.status(), -2);
            due(names[call] + " is not REFUSED", good(x, call) >= 0 ? 1 : 0, 1);
            due("behind " + names[call], x.status(), 0);
        }
    }

    private static int good(CutFloor x, int call) {
        switch (call) {
            case 0: return x.carcasses(0, 1);
            case 1: return x.weighs(0, 0, 1);
            case 2: return x.put(0, 0, 1);
            case 3: return x.man(0);
            case 4: return x.skills(0, 1);
            case 5: return x.terms(0, 1);
            case 6: feedText(x, "skill 1"); return x.tree();
            case 7: return x.give(0, 1);
            case 8: return x.box(1, 1, 1, 1, 1, 1);
            case 9: feedText(x, "1"); return x.row();
            case 10: return x.send(1, 1, 0, 0);
            case 11: return x.again(0);
            case 12: return x.yields(1, 1);
            case 13: return x.week(1);
            case 14: return x.image(0);
            default: return x.back(0);
        }
    }

    public static void main(String[] args) {
        newObject();
        settings();
        putting();
        men();
        tape();
        trees();
        ways();
        cuttings();
        bestAndFirst();
        worths();
        changes();
        sharing();
        boxes();
        rows();
        mixing();
        sending();
        recalls();
        weeks();
        images();
        counting();
        statuses();
        finish("sentences of the promises");
    }
}
