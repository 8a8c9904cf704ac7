import java.lang.reflect.Method;
import java.util.ArrayList;
import java.util.HashMap;
import java.util.List;
import java.util.Map;
import java.util.Random;

/** Runs of random calls, the same for CutFloor and for the Oracle: every answer must be the same. */
public final class RandomRunsTest {
    private static final Map<String, Method> REAL = methods(CutFloor.class);
    private static final Map<String, Method> DUE = methods(Oracle.class);

    private static final int NONE = -1;

    private final Random random;
    private final CutFloor real = new CutFloor();
    private final Oracle due = new Oracle();
    private final List<String> told = new ArrayList<>();
    private final boolean careful;
    private int calls = 0;
    private boolean wrong = false;

    private RandomRunsTest(long seed) {
        random = new Random(seed);
        careful = seed % 4 != 0;
    }

    private static Map<String, Method> methods(Class<?> c) {
        Map<String, Method> map = new HashMap<>();
        for (Method m : c.getDeclaredMethods()) {
            if (java.lang.reflect.Modifier.isPublic(m.getModifiers())) map.put(m.getName(), m);
        }
        return map;
    }

    private int call(String name, int... args) {
        Object[] boxed = new Object[args.length];
        for (int i = 0; i < args.length; i++) boxed[i] = args[i];
        calls++;
        try {
            int want = (Integer) DUE.get(name).invoke(due, boxed);
            int got = (Integer) REAL.get(name).invoke(real, boxed);
            told.add(name + java.util.Arrays.toString(args) + " = " + got);
            if (got != want) {
                wrong = true;
                told.add("DUE: " + want);
            }
            return got;
        } catch (ReflectiveOperationException e) {
            wrong = true;
            told.add(name + java.util.Arrays.toString(args) + " threw " + e.getCause());
            return 0;
        }
    }

    private int upTo(int n) {
        return random.nextInt(n + 1);
    }

    /** Mostly a number of the range, now and then one beside it. */
    private int number(int least, int most) {
        if (random.nextInt(careful ? 60 : 12) == 0) {
            int[] odd = {least - 1, most + 1, Integer.MIN_VALUE, Integer.MAX_VALUE, -1, least, most};
            return odd[random.nextInt(odd.length)];
        }
        return least + random.nextInt(most - least + 1);
    }

    private String blanks() {
        int n = random.nextInt(12);
        return n == 0 ? "  " : n == 1 ? "   " : " ";
    }

    private String sum(int depth) {
        StringBuilder b = new StringBuilder();
        int n = 1 + (random.nextInt(3) == 0 ? random.nextInt(3) : 0);
        for (int i = 0; i < n; i++) {
            if (i > 0) b.append("+-*/".charAt(random.nextInt(4)));
            int k = random.nextInt(10);
            if (k == 0 && depth < 3) b.append('[').append(sum(depth + 1)).append(']');
            else if (k < 6) b.append(random.nextInt(8) == 0 ? random.nextInt(1001) : random.nextInt(12));
            else b.append(new String[] {"class", "part", "way", "day", "weight"}[random.nextInt(5)]);
        }
        return b.toString();
    }

    private String test(int depth) {
        StringBuilder b = new StringBuilder();
        int n = 1 + (random.nextInt(3) == 0 ? random.nextInt(3) : 0);
        for (int i = 0; i < n; i++) {
            if (i > 0) b.append(random.nextBoolean() ? " and " : " or ");
            if (random.nextInt(5) == 0) b.append(random.nextInt(3) == 0 ? "not not " : "not ");
            if (random.nextInt(5) == 0 && depth < 3) b.append('(').append(test(depth + 1)).append(')');
            else b.append(sum(1)).append(random.nextInt(6) == 0 ? " " : "").append("<>=".charAt(random.nextInt(3))).append(sum(1));
        }
        return b.toString();
    }

    private String clause(int kind) {
        StringBuilder b = new StringBuilder();
        if (kind < 7) {
            int part = Math.min(upTo(8), upTo(8));
            if (random.nextInt(3) == 0) part = 0;
            b.append("cut").append(blanks()).append(part).append(" to");
            int n = 1 + random.nextInt(3);
            for (int i = 0; i < n; i++) {
                int to = part + 1 + random.nextInt(random.nextInt(3) == 0 ? 9 - part : Math.min(3, 9 - part));
                int many = random.nextInt(8) == 0 ? 1 + random.nextInt(9) : 1 + random.nextInt(3);
                b.append(i > 0 ? " and " : " ").append(many).append(blanks()).append(to);
            }
        } else {
            b.append(kind < 9 ? "minutes " : "skill ").append(sum(0));
        }
        if (random.nextInt(3) == 0) b.append(" if ").append(test(0));
        return b.toString();
    }

    private String text() {
        StringBuilder b = new StringBuilder();
        int n = 1 + random.nextInt(random.nextInt(3) == 0 ? 20 : 9);
        for (int i = 0; i < n; i++) {
            String c = clause(random.nextInt(10));
            if (b.length() + c.length() > 398) break;
            if (i > 0) b.append(random.nextInt(4) == 0 ? " ; " : ";");
            b.append(c);
        }
        if (random.nextInt(5) == 0) mutate(b);
        if (random.nextInt(10) == 0) b.append("  ");
        return b.length() > 400 ? b.substring(0, 400) : b.toString();
    }

    private void mutate(StringBuilder b) {
        int n = 1 + random.nextInt(2);
        for (int i = 0; i < n && b.length() > 0; i++) {
            int at = random.nextInt(b.length());
            String signs = "abcxtoifnd0123456789;+-*/<>=()[] A\n\u00ff";
            switch (random.nextInt(4)) {
                case 0: b.deleteCharAt(at); break;
                case 1: b.insert(at, signs.charAt(random.nextInt(signs.length()))); break;
                case 2: b.setCharAt(at, signs.charAt(random.nextInt(signs.length()))); break;
                default: b.setLength(at); break;
            }
        }
    }

    private void feedText(String text) {
        call("end", 0);
        StringBuilder padded = new StringBuilder(text);
        while (padded.length() % 20 != 0) padded.append((char) random.nextInt(256));
        for (int at = 0; at < padded.length(); at += 20) {
            int[] n = new int[5];
            for (int i = 0; i < 20; i++) n[i / 4] = n[i / 4] << 8 | padded.charAt(at + i);
            call("feed", n[0], n[1], n[2], n[3], n[4]);
        }
        call("end", text.length());
    }

    private void readTree() {
        feedText(text());
        call("tree");
        call("fault");
        for (int w = 0; w < 3; w++) call("way", number(0, 8), random.nextBoolean() ? 0 : number(10, 19));
    }

    private void someBoxes() {
        StringBuilder b = new StringBuilder();
        int n = random.nextInt(40);
        for (int i = 0; i < n; i++) {
            int[] most = {99, 100, 99, 3, 23, 255};
            b.append((char) (random.nextInt(9) == 0 ? random.nextInt(256) : Math.max(1, upTo(most[i % 6]))));
        }
        feedText(b.toString());
        call("row");
        call("spoilt");
    }

    private void setUp() {
        int part = random.nextInt(10);
        switch (random.nextInt(14)) {
            case 0: case 1:
                call("carcasses", number(0, 2), random.nextInt(3) == 0 ? number(0, 8) : number(0, 4));
                break;
            case 2: case 3:
                call("weighs", number(0, 9), number(0, 2), random.nextInt(3) == 0 ? number(0, 9999) : number(0, 200));
                break;
            case 4: case 5: case 6:
                call("put", number(0, 9), number(0, 1), random.nextInt(3) == 0 ? number(0, 999) : number(0, 12));
                break;
            case 7: case 8:
                call("put", number(0, 9), 2, number(0, 8));
                break;
            case 9:
                if (random.nextBoolean()) call("man", number(0, 15));
                else call("skills", number(0, 3), number(0, 15));
                break;
            case 10:
                call("terms", number(0, 1), number(0, 99));
                break;
            case 11:
                call("give", number(0, 7), random.nextInt(4) == 0 ? number(0, 63) : number(0, 5));
                break;
            case 12:
                if (random.nextInt(3) == 0) readTree();
                break;
            default:
                call(random.nextInt(3) == 0 ? "image" : "back", number(0, 1));
                break;
        }
    }

    private void askPlan() {
        int cls = number(0, 2);
        switch (random.nextInt(14)) {
            case 0: call("goes", number(0, 8), cls, number(0, 4)); break;
            case 1: call("cuttings", cls); break;
            case 2: call("choice", cls, number(0, 6), number(0, 9)); break;
            case 3: call("left", cls, number(0, 6), number(0, 9)); break;
            case 4: call("best", number(0, 1)); break;
            case 5: call("plan", number(0, 7)); break;
            case 6: call("made", number(0, 9), number(0, 1)); break;
            case 7: call("value", cls); break;
            case 8: call("shorts", cls); break;
            case 9: call("worth", number(0, 9)); break;
            case 10: call("change", cls, number(0, 1)); break;
            case 11: call("given", number(0, 3)); break;
            case 12: call("task", number(-1, 8)); break;
            default: call("share", number(-1, 8)); break;
        }
    }

    private void others() {
        switch (random.nextInt(12)) {
            case 0: case 1:
                call("box", number(1, 99), number(0, 100), number(0, 9), number(0, 1), number(0, 2), 1 << upTo(7) | (random.nextInt(4) == 0 ? 1 << upTo(7) : 0));
                break;
            case 2: call("of", number(0, 15), number(0, 6)); break;
            case 3: if (random.nextInt(4) == 0) someBoxes(); break;
            case 4: {
                int from = number(1, 200);
                call("mix", from, random.nextInt(3) == 0 ? number(1, 1584) : from + upTo(60), number(0, 100), number(0, 2));
                break;
            }
            case 5: call("send", number(1, 4), number(0, 20), number(0, 9), number(0, 20)); break;
            case 6: call("again", number(0, 15)); break;
            case 7: call("recall", random.nextInt(4) == 0 ? number(0, 255) : 1 << upTo(7), random.nextInt(3) == 0 ? -1 : number(0, 15)); break;
            case 8: call("yields", number(0, 99), number(0, 99)); break;
            case 9: call("drift", number(0, 20), number(0, 300), number(0, 1)); break;
            case 10: if (random.nextInt(3) == 0) call("week", number(0, 1_000_000)); else call("came", number(0, 4), number(0, 2)); break;
            default: if (random.nextBoolean()) call("count", number(0, 13)); else call("status"); break;
        }
    }

    /** A hall in which much hangs on the plan: small prices, so that many plans bring the same. */
    private void richStart() {
        int most = random.nextBoolean() ? 5 : 40;
        for (int part = 0; part < 10; part++) {
            call("put", part, 0, upTo(most));
            call("put", part, 1, upTo(random.nextBoolean() ? 1 : most));
            for (int cls = 0; cls < 3; cls++) call("weighs", part, cls, upTo(300) / (part + 1));
        }
        for (int i = 0; i < 6; i++) call("put", random.nextInt(10), 2, 1 + upTo(7));
        for (int i = 0; i < 4; i++) call("carcasses", random.nextInt(3), 1 + upTo(3));
        for (int i = 0; i < 4; i++) call("man", random.nextInt(3) == 0 ? 15 : upTo(15) | 1);
    }

    /** Many cuttings, many carcasses, five orders: few calls, each of them dear. */
    private boolean dearRun() {
        StringBuilder b = new StringBuilder();
        int n = 4 + random.nextInt(9);
        for (int i = 0; i < n; i++) {
            int part = i < 1 + random.nextInt(4) ? 0 : random.nextInt(6);
            StringBuilder c = new StringBuilder("cut " + part + " to ");
            int kinds = 1 + random.nextInt(4);
            for (int j = 0; j < kinds; j++) {
                c.append(j > 0 ? " and " : "").append(1 + random.nextInt(2)).append(' ').append(part + 1 + random.nextInt(9 - part));
            }
            if (random.nextInt(5) == 0) c.append(" if class<").append(1 + random.nextInt(2));
            if (b.length() + c.length() > 390) break;
            b.append(i > 0 ? ";" : "").append(c);
        }
        feedText(b.toString());
        call("tree");
        richStart();
        for (int i = 0; i < 4; i++) call("carcasses", random.nextInt(3), 1 + upTo(3));
        for (int i = 0; i < 30 && !wrong; i++) {
            if (random.nextInt(6) == 0) call("put", random.nextInt(10), random.nextInt(3), upTo(8));
            if (random.nextInt(10) == 0) call("carcasses", random.nextInt(3), upTo(4));
            askPlan();
        }
        call("best", 0);
        call("best", 1);
        for (int i = 0; i < 8; i++) call("plan", i);
        for (int cls = 0; cls < 3; cls++) {
            call("change", cls, 0);
            call("change", cls, 1);
        }
        call("share", NONE);
        return !wrong;
    }

    private boolean run() {
        readTree();
        if (random.nextInt(3) > 0) richStart();
        while (calls < 480 && !wrong) {
            int k = random.nextInt(10);
            if (k < 3) setUp();
            else if (k < 8) askPlan();
            else others();
        }
        return !wrong;
    }

    public static void main(String[] args) {
        long from = args.length > 0 ? Long.parseLong(args[0]) : 1;
        long runs = args.length > 1 ? Long.parseLong(args[1]) : 1500;
        List<Long> bad = java.util.Collections.synchronizedList(new ArrayList<>());
        java.util.stream.LongStream.range(from, from + runs).parallel().forEach(seed -> {
            RandomRunsTest test = new RandomRunsTest(seed);
            if (!(seed % 8 == 0 ? test.dearRun() : test.run())) {
                bad.add(seed);
                if (bad.size() <= 3) {
                    synchronized (bad) {
                        System.out.println("seed " + seed + ":");
                        for (String line : test.told) System.out.println("  " + line);
                    }
                }
            }
        });
        System.out.println(runs + " random runs, " + bad.size() + " wrong");
        if (!bad.isEmpty()) System.exit(1);
    }
}
