/** What the tests by hand share: answers held against what is due, and texts put on the TAPE. */
abstract class Dues {
    static final int NONE = -1;
    static final int NOTHING = -100_000;
    static final int MIN = Integer.MIN_VALUE;
    static final int MAX = Integer.MAX_VALUE;

    private static String place = "";
    private static int places = 0;
    private static int askedAtPlace = 0;
    private static int asked = 0;
    private static int wrong = 0;

    /** What is asked from here on is asked for this: a promise, or a sentence of the document. */
    static void at(String words) {
        leave();
        place = words;
        places++;
    }

    private static void leave() {
        if (places > 0 && askedAtPlace == 0) {
            wrong++;
            System.out.println(place + ": nothing was asked");
        }
        askedAtPlace = 0;
    }

    static void due(String call, int got, int want) {
        asked++;
        askedAtPlace++;
        if (got != want) {
            wrong++;
            System.out.println(place + ": " + call + " answered " + got + ", due is " + want);
        }
    }

    static void finish(String of) {
        leave();
        System.out.println(places + " " + of + ", " + asked + " answers asked, " + wrong + " not as due");
        if (wrong != 0) System.exit(1);
    }

    /** The TAPE holds the text alone then. */
    static void feedText(CutFloor x, String text) {
        x.end(0);
        StringBuilder padded = new StringBuilder(text);
        while (padded.length() % 20 != 0) padded.append('?');
        for (int at = 0; at < padded.length(); at += 20) {
            int[] n = new int[5];
            for (int i = 0; i < 20; i++) n[i / 4] = n[i / 4] << 8 | padded.charAt(at + i);
            x.feed(n[0], n[1], n[2], n[3], n[4]);
        }
        x.end(text.length());
    }

    static int read(CutFloor x, String text) {
        feedText(x, text);
        return x.tree();
    }

    /** A new object with that TREE. */
    static CutFloor hall(String text) {
        CutFloor x = new CutFloor();
        int clauses = read(x, text);
        if (clauses < 0) due("tree of \"" + text + "\" with fault at " + x.fault(), clauses, 1);
        return x;
    }

    /** The text is refused with a fault at that place. */
    static void faulty(String text, int at) {
        CutFloor x = new CutFloor();
        due("tree of \"" + text + "\"", read(x, text), -6);
        due("fault of \"" + text + "\"", x.fault(), at);
        due("clauses of \"" + text + "\"", x.count(1), 0);
    }

    static void readable(String text, int clauses) {
        CutFloor x = new CutFloor();
        due("tree of \"" + text + "\"", read(x, text), clauses);
        due("fault of \"" + text + "\"", x.fault(), NONE);
    }

    static String times(String s, int n) {
        return s.repeat(n);
    }

    static String bytes(int... numbers) {
        StringBuilder b = new StringBuilder();
        for (int n : numbers) b.append((char) n);
        return b.toString();
    }

    /** Two carcasses; 1 is wanted three times at 10, what is beyond brings nothing; 3 brings 2 each, 2 one. */
    static CutFloor shop() {
        CutFloor x = hall("cut 0 to 2 1 and 1 2;cut 1 to 3 3;minutes 5;skill 1 if way=1");
        x.carcasses(0, 2);
        x.put(1, 0, 10);
        x.put(1, 2, 3);
        x.put(3, 1, 2);
        x.put(2, 1, 1);
        return x;
    }

    /** CLASS 1 alone has more than 64 CUTTINGS. */
    static String crowdedForOne() {
        return "cut 0 to 1 1 and 1 2 and 1 3 and 1 4 and 1 5 and 1 6 if class=1;cut 1 to 1 7;cut 2 to 1 8;cut 3 to 1 9;"
                + "cut 4 to 2 9;cut 5 to 3 9;cut 6 to 4 9";
    }

    /** 64 CUTTINGS: left, 7 WAYS, each with 1 left or cut by 8 WAYS; on DAY 1 there are more. */
    static String justSixtyFour() {
        return times("cut 0 to 1 1;", 7) + times("cut 1 to 1 2;", 8) + "cut 2 to 1 3 if day=1";
    }
}
