/** What the tests by hand share: answers held against what is due, and texts put on the TAPE. */
abstract class Dues {
    static final int NONE = -1;
    static final int NOTHING = -100_000;
    static final int MIN = Integer.MIN_VALUE;
    static final int MAX = Integer.MAX_VALUE;

    private static String place = "";
    private static int places = 0;
    private static int askedAtPlace = 0;
    private static int asked = 0;
    private static int wrong = 0;

    /** What is asked from here on is asked for this: a promise, or a sentence of the document. */
    static void at(String words) {
        leave();
        place = words;
        places++;
    }

    private static void leave() {
        if (places > 0 && askedAtPlace == 0) {
            wrong++;
            System.out.println(place + ": nothing was asked");
        }
        askedAtPlace = 0;
    }

    static void due(String call, int got, int want) {
        asked++;
        askedAtPlace++;
        if (got != want) {
            wrong++;
            System.out.println(place + ": " + call + " answered " + got + ", due is " + want);
        }
    }

    static void finish(String of) {
        leave();
        System.out.println(places + " " + of + ", " + asked + " answers asked, " + wrong + " not as due");
        if (wrong != 0) System.exit(1);
    }

    /** The TAPE holds the text alone then. */
    static void feedText(CutFloor x, String text) {
        x.end(0);
        StringBuilder padded = new StringBuilder(text);
        while (padded.length() % 20 != 0) padded.append('?');
        for (int at = 0; at < padded.length(); at += 20) {
            int[] n = new int[5];
            for (int i = 0; i < 20; i++) n[i / 4] = n[i / 4] << 8 | padded.charAt(at + i);
            x.feed(n[0], n[1], n[2], n[3], n[4]);
        }
        x.end(text.length());
    }

    static int read(CutFloor x, String text) {
        feedText(x, text);
        return x.tree();
    }

    /** A new object with that TREE. */
    static CutFloor hall(String text) {
        CutFloor x = new CutFloor();
        int clauses = read(x, text);
        if (clauses < 0) due("tree of \"" + text + "\" with fault at " + x.fault(), clauses, 1);
        return x;
    }

    /** The text is refused with a fault at that place. */
    static void faulty(String text, int at) {
        CutFloor x = new CutFloor();
        due("tree of \"" + text + "\"", read(x, text), -6);
        due("fault of \"" + text + "\"", x.fault(), at);
        due("clauses of \"" + text + "\"", x.count(1), 0);
    }

    static void readable(String text, int clauses) {
        CutFloor x = new CutFloor();
        due("tree of \"" + text + "\"", read(x, text), clauses);
        due("fault of \"" + text + "\"", x.fault(), NONE);
    }

    static String times(String s, int n) {
        return s.repeat(n);
    }

    static String bytes(int... numbers) {
        StringBuilder b = new StringBuilder();
        for (int n : numbers) b.append((char) n);
        return b.toString();
    }
}
