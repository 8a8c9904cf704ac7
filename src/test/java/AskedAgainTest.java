/** What was answered before a change must not stick: each changing call stands between two askings here. */
public final class AskedAgainTest extends Dues {
    private static void byWeight() {
        at("3: weighs: behind it all is as by the new WEIGHT");
        CutFloor x = hall("cut 0 to 1 1 if weight>5;minutes weight;skill weight-6");
        x.put(1, 1, 9);
        x.carcasses(1, 1);
        x.man(3);
        due("cuttings", x.cuttings(1), 1);
        due("best", x.best(0), 0);
        due("task", x.task(0), 0);
        x.weighs(0, 1, 6);
        due("cuttings", x.cuttings(1), 2);
        due("best", x.best(0), 9);
        due("task", x.task(0), 6);
        due("share", x.share(0), 0);
        x.weighs(0, 1, 7);
        due("task", x.task(0), 7);
        due("longest", x.share(NONE), 7);
        x.weighs(0, 1, 8);
        due("task", x.task(NONE), 8);
        due("nobody has SKILL 2", x.share(NONE), NONE);
        x.weighs(0, 0, 1);
        due("of another CLASS", x.best(0), 9);
        x.weighs(0, 1, 0);
        due("best", x.best(0), 0);
        due("plan", x.plan(0), 0);
        due("way 0", x.task(0), 0);
    }

    private static void byDay() {
        at("7: terms: behind it all is as on the new DAY");
        CutFloor x = hall("cut 0 to 1 1 if day>5;minutes day;skill day-6");
        x.put(1, 1, 9);
        x.carcasses(0, 1);
        x.man(3);
        due("cuttings", x.cuttings(0), 1);
        due("best", x.best(0), 0);
        due("week", x.week(2), 0);
        x.terms(0, 6);
        due("cuttings", x.cuttings(0), 2);
        due("best", x.best(0), 9);
        due("task", x.task(0), 6);
        due("share", x.share(NONE), 6);
        due("given", x.given(1), 9);
        x.terms(0, 7);
        due("task", x.task(0), 7);
        due("share", x.share(NONE), 7);
        x.terms(0, 8);
        due("nobody has SKILL 2", x.share(NONE), NONE);
        x.terms(1, 3);
        due("LOSS changes nothing of it", x.task(0), 8);
        x.terms(0, 5);
        due("best", x.best(0), 0);
        due("first", x.plan(0), 0);
    }

    private static void byMarket() {
        at("4: put: behind it all is as by the new PRICES");
        CutFloor x = hall("cut 0 to 1 1;cut 0 to 1 2");
        x.carcasses(0, 1);
        x.man(15);
        due("best", x.best(0), 0);
        due("plans", x.best(1), 3);
        due("change", x.change(0, 0), 0);
        due("value", x.value(0), 0);
        x.put(2, 0, 7);
        due("nobody wants it", x.best(0), 0);
        due("worth", x.worth(2), 7);
        x.put(2, 2, 1);
        due("best", x.best(0), 7);
        due("plans", x.best(1), 1);
        due("plan", x.plan(0), 2);
        due("made", x.made(2, 0), 1);
        due("lacks", x.made(2, 1), 0);
        due("worth", x.worth(2), 0);
        due("shorts", x.shorts(0), 7);
        due("task", x.task(1), 1);
        due("share", x.share(1), 0);
        due("given", x.given(3), 1);
        x.put(1, 1, 8);
        due("best", x.best(0), 8);
        due("plan", x.plan(0), 1);
        due("task", x.task(1), 0);
        due("task", x.task(0), 1);
        due("share", x.share(1), NONE);
        due("share", x.share(0), 0);
        due("value", x.value(0), 8);
        due("lacks", x.made(2, 1), 1);
    }

    private static void byCarcasses() {
        at("2: carcasses: behind it all is as with so many");
        CutFloor x = hall("cut 0 to 1 1 if class=0;cut 0 to 2 1 if class=1");
        x.put(1, 1, 3);
        x.man(15);
        x.carcasses(0, 2);
        due("best", x.best(0), 6);
        due("task", x.task(NONE), 2);
        due("share", x.share(NONE), 2);
        due("change", x.change(0, 1), 3);
        x.carcasses(1, 1);
        due("best", x.best(0), 12);
        due("plan", x.plan(2), 1);
        due("task", x.task(NONE), 3);
        due("way 1", x.task(1), 1);
        due("share", x.share(NONE), 3);
        due("change", x.change(0, 1), 9);
        due("change", x.change(1, 1), 6);
        due("made", x.made(1, 0), 4);
        x.carcasses(0, 0);
        due("best", x.best(0), 6);
        due("plan", x.plan(0), 1);
        due("plan", x.plan(1), NONE);
        due("task", x.task(0), 0);
        due("share", x.share(0), NONE);
        due("share", x.share(1), 0);
        due("change", x.change(1, 1), 0);
        due("change", x.change(0, 1), NONE);
    }

    private static void byMen() {
        at("5, 6: man, skills: behind it all is SHARED anew");
        CutFloor x = hall("cut 0 to 2 1;cut 1 to 1 2;skill way");
        x.put(2, 1, 3);
        x.carcasses(0, 2);
        due("nobody", x.share(NONE), NONE);
        x.man(3);
        due("one", x.share(NONE), 6);
        x.man(2);
        due("two", x.share(NONE), 4);
        due("who", x.share(1), 1);
        x.skills(1, 0);
        due("the second can't", x.share(NONE), 6);
        due("who", x.share(1), 0);
        x.skills(0, 1);
        due("nobody can way 1", x.share(NONE), NONE);
        x.skills(1, 3);
        due("two", x.share(NONE), 4);
        due("who", x.share(0), 0);
    }

    private static void byTree() {
        at("10: tree: behind it all is as by the new TREE");
        CutFloor x = hall("minutes 9;cut 0 to 1 1;cut 0 to 2 2 if class=1");
        x.put(1, 1, 3);
        x.put(2, 1, 4);
        x.carcasses(0, 1);
        x.man(15);
        due("best", x.best(0), 3);
        due("task", x.task(0), 9);
        due("share", x.share(NONE), 9);
        read(x, "cut 0 to 1 2;cut 0 to 1 1");
        due("best", x.best(0), 4);
        due("task", x.task(0), 1);
        due("share", x.share(NONE), 1);
        read(x, "cut 0 to 1 1;skill 1;minutes 4");
        due("cuttings", x.cuttings(0), 2);
        due("best", x.best(0), 3);
        due("task", x.task(0), 4);
        read(x, "skill 2;cut 0 to 1 2 if day=1");
        due("cuttings", x.cuttings(0), 1);
        due("best", x.best(0), 0);
        read(x, "minutes 8 if day=1;minutes 7 if day=0;cut 0 to 1 1");
        due("task", x.task(0), 7);
        due("no skill", x.goes(0, 0, 2), 0);
        read(x, "cut 0 to 1 1;cut 0 to 1 2");
        due("no minutes", x.goes(0, 0, 1), 1);
        due("task", x.task(1), 1);
        read(x, "cut 0 to 1");
        due("a bad one changes nothing", x.best(0), 4);
        for (int i = 0; i < 3; i++) read(x, "minutes 9;minutes 9;skill 3;minutes 9;skill 3;cut 0 to 1 1");
        for (int i = 0; i < 3; i++) {
            read(x, "cut 0 to 1 1");
            due("no minutes", x.goes(0, 0, 1), 1);
            due("no skill", x.goes(0, 0, 2), 0);
        }
        at("10: tree: many of them one behind the other");
        x = new CutFloor();
        for (int i = 0; i < 40; i++) {
            int minutes = i * 7 % 60;
            due("tree " + i, read(x, "skill [[1+2]*3-1]/4;minutes 2*" + minutes + "-" + minutes + " if not (1>2 or 2>3 and 1=1);cut 0 to 1 1"), 3);
            due("minutes " + i, x.goes(0, 0, 1), minutes);
            due("skill " + i, x.goes(0, 0, 2), 2);
        }
    }

    private static void byImages() {
        at("41: back: behind it the PRICES alone are others");
        CutFloor x = hall("cut 0 to 1 1;cut 0 to 1 2");
        x.carcasses(0, 1);
        x.put(1, 1, 5);
        x.man(15);
        x.image(0);
        due("best", x.best(0), 5);
        x.put(2, 1, 6);
        due("best", x.best(0), 6);
        due("plan", x.plan(0), 2);
        x.back(0);
        due("best", x.best(0), 5);
        due("plan", x.plan(0), 1);
        due("task", x.task(1), 0);
        at("41: back: behind it the CARCASSES alone are others");
        x.carcasses(0, 3);
        due("best", x.best(0), 15);
        due("share", x.share(NONE), 3);
        x.back(0);
        due("best", x.best(0), 5);
        due("plan", x.plan(1), NONE);
        due("share", x.share(NONE), 1);
        at("41: back: behind it the DAY alone is another");
        CutFloor y = hall("cut 0 to 1 1 if day=0;minutes day+1");
        y.carcasses(0, 1);
        y.put(1, 1, 5);
        y.image(1);
        due("best", y.best(0), 5);
        due("task", y.task(0), 1);
        y.terms(0, 1);
        due("best", y.best(0), 0);
        y.back(1);
        due("best", y.best(0), 5);
        due("task", y.task(0), 1);
        at("41: back: the TREE is as it was");
        String[] texts = {"cut 0 to 1 1;minutes 3+4 if class=0 and day<2;skill 1;cut 1 to 2 3 if 1=1 or 1/0=0",
            "skill 2-class;minutes 1;minutes 9*5/[2+1] if not (class=1);cut 2 to 1 5 if weight=0;cut 0 to 3 4 and 1 5 if class>0"};
        CutFloor z = new CutFloor();
        for (int k = 0; k < 2; k++) {
            read(z, texts[k]);
            z.image(k);
        }
        for (int turn = 0; turn < 3; turn++) {
            read(z, turn == 0 ? "skill 3" : turn == 1 ? times("cut 0 to 9 9;", 9) + "minutes 50" : "minutes [[[1]]]+1+1+1+1+1;cut 8 to 1 9");
            for (int k = 0; k < 2; k++) {
                z.back(k);
                CutFloor fresh = hall(texts[k]);
                for (int way = 0; way < 2; way++) {
                    for (int cls = 0; cls < 3; cls++) {
                        for (int what = 0; what < 5; what++) {
                            due("goes " + way + " " + cls + " " + what + " of image " + k, z.goes(way, cls, what), fresh.goes(way, cls, what));
                        }
                        due("cuttings " + cls + " of image " + k, z.cuttings(cls), fresh.cuttings(cls));
                    }
                    for (int part = 0; part < 10; part++) due("way " + way, z.way(way, 10 + part), fresh.way(way, 10 + part));
                    due("way " + way, z.way(way, 0), fresh.way(way, 0));
                }
                due("minutes", z.goes(0, 0, 1), k == 0 ? 7 : 15);
                due("skill", z.goes(0, 0, 2), k == 0 ? 1 : 2);
                due("clauses", z.count(1), k == 0 ? 4 : 5);
            }
        }
    }

    private static void byBoxes() {
        at("28, 30, 33, 34: box, row, send, again: behind each it is mixed anew");
        CutFloor x = new CutFloor();
        due("none", x.mix(1, 50, 0, 2), 0);
        x.box(5, 0, 1, 0, 0, 1);
        due("one", x.mix(1, 50, 0, 2), 1);
        x.box(6, 0, 2, 0, 0, 2);
        due("two", x.mix(1, 50, 0, 2), 3);
        feedText(x, bytes(7, 0, 3, 0, 0, 4));
        x.row();
        due("three", x.mix(1, 50, 0, 2), 7);
        x.send(1, 3, 0, 99);
        due("two are there", x.mix(1, 50, 0, 2), 3);
        due("without the first", x.mix(1, 50, 0, 1), 2);
        x.again(0);
        due("three", x.mix(1, 50, 0, 2), 7);
        due("with the first", x.mix(1, 50, 0, 1), 1);
        x.image(0);
        x.send(16, 3, 0, 99);
        due("none is there", x.mix(1, 50, 0, 2), 0);
        x.back(0);
        due("three", x.mix(1, 50, 0, 2), 7);
        at("32: mix: asked with one number other");
        x.box(6, 50, 3, 0, 0, 4);
        due("6 .. 7", x.mix(6, 7, 0, 2), 3);
        due("6 .. 6", x.mix(6, 6, 0, 2), 2);
        due("7 .. 7", x.mix(7, 7, 0, 2), 1);
        due("6 .. 7, leaner", x.mix(6, 7, 1, 2), 1);
        due("6 .. 7, leaner", x.mix(6, 7, 50, 0), 0);
        due("6 .. 7, leaner", x.mix(6, 7, 49, 0), 6);
        at("35: recall: behind each BOX it is asked anew");
        due("carcass 0", x.recall(1, NONE), 1);
        x.box(1, 1, 1, 0, 0, 8);
        due("made there and then", x.recall(1, NONE), 1 | 1 << 4);
        at("37: drift: behind each YIELD it is asked anew");
        x.yields(5, 0);
        due("greatest", x.drift(0, 6, 1), 5);
        due("none", x.drift(0, 6, 0), NONE);
        x.yields(5, 3);
        due("greatest", x.drift(0, 6, 1), 7);
        due("the second", x.drift(0, 6, 0), 1);
    }

    private static CutFloor rich() {
        CutFloor x = hall("cut 0 to 1 1 if class=0;cut 0 to 1 2;cut 0 to 1 3;cut 1 to 2 4");
        int[] prices = {0, 5, 9, 4, 3};
        for (int part = 1; part < 5; part++) {
            x.put(part, 0, prices[part]);
            x.put(part, 1, part % 2);
            x.put(part, 2, 2);
        }
        x.carcasses(0, 2);
        x.carcasses(1, 2);
        x.man(15);
        return x;
    }

    private static void between() {
        at("17 .. 27: whatever else is asked between");
        CutFloor x = rich();
        int best = x.best(0);
        int plans = x.best(1);
        int[] first = {x.plan(0), x.plan(1), x.plan(2), x.plan(3)};
        int change = x.change(1, 0) * 1000 + x.change(1, 1);
        int share = x.share(NONE);
        int worth = x.worth(2);
        for (int turn = 0; turn < 6; turn++) {
            if (turn == 0) x.week(turn + 5);
            if (turn == 1) x.value(2);
            if (turn == 2) x.shorts(0);
            if (turn == 3) x.worth(4);
            if (turn == 4) x.change(0, 0);
            if (turn == 5) x.given(1);
            due("best", x.best(0), best);
            due("plans", x.best(1), plans);
            for (int i = 0; i < 4; i++) due("plan", x.plan(i), first[i]);
            due("change", x.change(1, 0) * 1000 + x.change(1, 1), change);
            due("share", x.share(NONE), share);
            due("worth", x.worth(2), worth);
        }
        at("17 .. 27: whatever was asked ahead");
        for (int ahead = 0; ahead < 64; ahead++) {
            CutFloor y = rich();
            if ((ahead & 1) != 0) y.best(0);
            if ((ahead & 2) != 0) y.plan(0);
            if ((ahead & 4) != 0) y.value(0);
            if ((ahead & 8) != 0) y.shorts(1);
            if ((ahead & 16) != 0) y.week(3);
            if ((ahead & 32) != 0) y.worth(2);
            due("others bring", y.change(1, 0) * 1000 + y.change(1, 1), change);
            for (int i = 0; i < 4; i++) due("plan", y.plan(i), first[i]);
            if ((ahead & 32) != 0) y.worth(1);
            y.carcasses(1, 1);
            CutFloor z = rich();
            z.carcasses(1, 1);
            for (int i = 0; i < 4; i++) due("plan of fewer", y.plan(i), z.plan(i));
            due("best of fewer", y.best(0), z.best(0));
            if ((ahead & 4) != 0) y.worth(3);
            y.carcasses(0, 3);
            z = rich();
            z.carcasses(1, 1);
            z.carcasses(0, 3);
            for (int i = 0; i < 4; i++) due("plan of others", y.plan(i), z.plan(i));
            due("best of others", y.best(0), z.best(0));
            due("task of others", y.task(NONE), z.task(NONE));
        }
        // those of CLASS 1 bring 9 each; of CLASS 0 one brings 5, the other 3 twice
        due("best by hand", best, 9 + 9 + 6 + 5);
    }

    public static void main(String[] args) {
        byWeight();
        byDay();
        byMarket();
        byCarcasses();
        byMen();
        byTree();
        byImages();
        byBoxes();
        between();
        finish("kinds of change");
    }
}
