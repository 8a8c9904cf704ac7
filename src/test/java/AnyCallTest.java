import java.lang.reflect.Method;
import java.lang.reflect.Modifier;
import java.util.ArrayList;
import java.util.Arrays;
import java.util.List;
import java.util.Map;
import java.util.Random;
import java.util.TreeMap;
import java.util.function.Consumer;

/**
 * Of every call: none throws for any arguments in any state; one that is REFUSED changes nothing but what is counted
 * of it; one that only asks changes nothing at all.
 */
public final class AnyCallTest extends Dues {
    private static final Map<String, Method> CALLS = new TreeMap<>();
    private static final List<String> CHANGING = List.of("carcasses", "weighs", "put", "man", "skills", "terms", "feed", "end", "tree",
            "give", "box", "row", "send", "again", "yields", "week", "image", "back");
    private static final int[] EDGES = {MIN, MIN + 1, -100_000, -2, -1, 0, 1, 2, 3, 5, 8, 9, 10, 16, 19, 63, 64, 99, 100, 255, 256, 400,
        999, 1000, 1584, 9999, 10_000, 1_000_000, 1_000_001, MAX - 1, MAX};
    /** No object is asked more than it is promised to answer: 512 calls, those that set it up among them. */
    private static final int ASKED_OF_ONE = 300;

    private record Ask(String name, int... numbers) {
        int of(CutFloor x) {
            Object[] boxed = new Object[numbers.length];
            for (int i = 0; i < numbers.length; i++) boxed[i] = numbers[i];
            try {
                return (Integer) CALLS.get(name).invoke(x, boxed);
            } catch (ReflectiveOperationException e) {
                due(this + " threw " + e.getCause(), 1, 0);
                return NONE;
            }
        }

        @Override
        public String toString() {
            return name + Arrays.toString(numbers);
        }
    }

    private static void empty(CutFloor x) {
    }

    private static void shop(CutFloor x) {
        read(x, "cut 0 to 2 1 and 1 2;cut 1 to 3 3;minutes 5 if day<50;skill 1 if way=1");
        x.carcasses(0, 2);
        x.carcasses(2, 1);
        x.put(1, 0, 10);
        x.put(1, 2, 3);
        x.put(3, 1, 2);
        x.put(2, 1, 1);
        x.weighs(0, 0, 200);
        x.weighs(1, 0, 90);
        x.man(1);
        x.man(3);
        x.give(1, 2);
        x.box(10, 50, 5, 0, 3, 1);
        x.box(20, 30, 4, 0, 3, 2);
        x.box(5, 80, 5, 1, 3, 2);
        x.send(1, 8, 3, 4);
        x.yields(10, 9);
        x.yields(10, 7);
        x.terms(1, 9);
        x.image(0);
        x.week(5);
        x.feed(1, 2, 3, 4, 5);
        x.row();
        x.feed(0x63757420, 2, 3, 4, 5);
    }

    private static void crowded(CutFloor x) {
        shop(x);
        read(x, crowdedForOne());
        x.carcasses(1, 1);
    }

    /** Full of all that has a limit. */
    private static void full(CutFloor x) {
        read(x, "cut 0 to 2 1 and 1 2;cut 0 to 1 3;cut 1 to 1 4 and 1 5;cut 2 to 1 5;cut 3 to 2 4" + times(";cut 8 to 1 9", 11)
                + ";minutes way;skill class;minutes 7 if weight>3" + times(";skill 1/0", 5));
        x.carcasses(0, 3);
        x.carcasses(1, 3);
        x.carcasses(2, 2);
        for (int part = 1; part < 6; part++) {
            x.put(part, 0, 9 - part);
            x.put(part, 2, 4);
        }
        for (int i = 0; i < 4; i++) x.man(15 - i);
        for (int i = 0; i < 16; i++) x.box(1 + 5 * i, 6 * i, i, i % 4, i, 1 << i % 8);
        for (int i = 0; i < 40; i++) x.yields(i, 20);
        for (int i = 0; i < 8; i++) x.give(i, 8 * i);
        x.image(0);
        x.image(1);
        for (int i = 0; i < 20; i++) x.feed(i, i, i, i, i);
    }

    private static List<Ask> questions() {
        List<Ask> list = new ArrayList<>();
        for (String name : new String[] {"fault", "spoilt"}) list.add(new Ask(name));
        for (int what = 0; what < 9; what++) list.add(new Ask("count", what));
        for (int way = -1; way < 6; way++) {
            list.add(new Ask("task", way));
            list.add(new Ask("share", way));
            for (int what = 0; what < 16; what += what == 0 ? 10 : 1) list.add(new Ask("way", way, what));
            for (int cls = 0; cls < 3; cls++) {
                for (int what = 0; what < 5; what++) list.add(new Ask("goes", way, cls, what));
            }
        }
        for (int cls = 0; cls < 3; cls++) {
            for (String name : new String[] {"cuttings", "value", "shorts"}) list.add(new Ask(name, cls));
            for (int what = 0; what < 2; what++) list.add(new Ask("change", cls, what));
            for (int day = 0; day < 5; day++) list.add(new Ask("came", day, cls));
            for (int i = 0; i < 4; i++) {
                for (int part = 0; part < 6; part++) {
                    list.add(new Ask("choice", cls, i, part));
                    list.add(new Ask("left", cls, i, part));
                }
            }
        }
        for (int what = 0; what < 4; what++) {
            list.add(new Ask("best", what));
            list.add(new Ask("given", what));
            list.add(new Ask("mix", 10, 60, 40, what));
            list.add(new Ask("drift", 1, 3, what));
        }
        for (int i = 0; i < 10; i++) {
            list.add(new Ask("plan", i));
            list.add(new Ask("worth", i));
            for (int what = 0; what < 2; what++) list.add(new Ask("made", i, what));
        }
        for (int box = -1; box < 17; box++) {
            list.add(new Ask("recall", 1, box));
            list.add(new Ask("recall", 130, box));
            for (int what = 0; what < 7; what++) list.add(new Ask("of", box, what));
        }
        return list;
    }

    /** Asked behind all others, for they set anew: what stood is answered then. */
    private static List<Ask> settings() {
        List<Ask> list = new ArrayList<>();
        for (int part = 0; part < 10; part++) {
            for (int cls = 0; cls < 3; cls++) list.add(new Ask("weighs", part, cls, 0));
            for (int what = 0; what < 3; what++) list.add(new Ask("put", part, what, 0));
        }
        for (int cls = 0; cls < 3; cls++) list.add(new Ask("carcasses", cls, 0));
        for (int i = 0; i < 4; i++) list.add(new Ask("skills", i, 0));
        for (int i = 0; i < 8; i++) list.add(new Ask("give", i, 0));
        for (int what = 0; what < 2; what++) list.add(new Ask("terms", what, 0));
        // the TAPE's bytes, as far as they make BOXES; whether IMAGES are kept, and what of
        list.add(new Ask("row"));
        list.add(new Ask("spoilt"));
        for (int k = 0; k < 2; k++) {
            list.add(new Ask("back", k));
            for (int what = 0; what < 9; what++) list.add(new Ask("count", what));
        }
        return list;
    }

    /** All answers of objects that were set up so. */
    private static List<String> answers(Consumer<CutFloor> setUp) {
        List<String> told = new ArrayList<>();
        List<Ask> questions = questions();
        for (int from = 0; from < questions.size(); from += ASKED_OF_ONE) {
            askAll(setUp, questions.subList(from, Math.min(questions.size(), from + ASKED_OF_ONE)), told);
        }
        askAll(setUp, settings(), told);
        return told;
    }

    private static void askAll(Consumer<CutFloor> setUp, List<Ask> questions, List<String> told) {
        CutFloor x = new CutFloor();
        setUp.accept(x);
        for (Ask ask : questions) told.add(ask + " = " + ask.of(x));
    }

    private static void same(String behind, List<String> got, List<String> want) {
        int differing = 0;
        for (int i = 0; i < want.size(); i++) {
            if (!got.get(i).equals(want.get(i)) && differing++ < 3) {
                System.out.println("behind " + behind + " " + got.get(i) + ", but without " + want.get(i));
            }
        }
        due("answers that differ behind " + behind, differing, 0);
    }

    private static List<Ask> refusedCalls() {
        List<Ask> list = new ArrayList<>();
        int[][] bad = {{3, 1}, {-1, 1}, {0, 9}, {0, -1}, {1, 8}};
        for (int[] b : bad) list.add(new Ask("carcasses", b));
        for (int[] b : new int[][] {{10, 0, 1}, {0, 3, 1}, {0, 0, 10_000}, {0, 0, -1}}) list.add(new Ask("weighs", b));
        for (int[] b : new int[][] {{10, 0, 1}, {1, 3, 1}, {1, 0, 1000}, {1, 1, 1000}, {1, 2, 9}, {9, 2, 1}}) list.add(new Ask("put", b));
        for (int b : new int[] {16, -1, 0}) list.add(new Ask("man", b));
        for (int[] b : new int[][] {{0, 16}, {0, -1}, {4, 0}, {-1, 0}}) list.add(new Ask("skills", b));
        for (int[] b : new int[][] {{0, 100}, {1, 101}, {2, 0}, {0, -1}}) list.add(new Ask("terms", b));
        for (int[] b : new int[][] {{8, 0}, {0, 64}, {-1, 0}, {0, -1}}) list.add(new Ask("give", b));
        for (int[] b : new int[][] {{0, 0, 0, 0, 0, 0}, {1, 1, 1, 1, 24, 1}, {1, 1, 1, 1, 1, 1}}) list.add(new Ask("box", b));
        for (int[] b : new int[][] {{0, 5, 0, 99}, {17, 5, 0, 99}, {1, 100, 0, 99}, {1, 5, -1, 99}, {1, 5, 0, 100}}) list.add(new Ask("send", b));
        for (int b : new int[] {-1, 16, 15, 1}) list.add(new Ask("again", b));
        for (int[] b : new int[][] {{1000, 0}, {0, -1}, {1, 1}}) list.add(new Ask("yields", b));
        for (int b : new int[] {-1, 1_000_001, 7}) list.add(new Ask("week", b));
        for (int b : new int[] {-1, 2}) list.add(new Ask("image", b));
        for (int b : new int[] {-1, 2, 1}) list.add(new Ask("back", b));
        return list;
    }

    private static void refusedChangesNothing(String state, Consumer<CutFloor> setUp) {
        List<String> want = answers(setUp);
        int refused = 0;
        for (Ask call : refusedCalls()) {
            CutFloor x = new CutFloor();
            setUp.accept(x);
            int before = 0;
            for (int what = 9; what <= 13; what++) before += x.count(what);
            int got = call.of(x);
            int behind = 0;
            for (int what = 9; what <= 13; what++) behind += x.count(what);
            due("status of " + call + " in " + state, x.status(), behind > before ? got : 0);
            if (behind == before) continue;
            refused++;
            at(call + " is REFUSED in " + state);
            same(call.toString(), answers(y -> {
                setUp.accept(y);
                call.of(y);
            }), want);
        }
        due("calls REFUSED in " + state, refused > 30 ? 1 : 0, 1);
    }

    private static void askingChangesNothing(String state, Consumer<CutFloor> setUp) {
        at("asking changes nothing in " + state);
        List<String> want = answers(setUp);
        List<Ask> questions = questions();
        java.util.Collections.shuffle(questions, new Random(3));
        for (int from = 0; from + 100 < questions.size(); from += 100) {
            List<Ask> some = questions.subList(from, from + 100);
            same("a hundred questions from " + from, answers(x -> {
                setUp.accept(x);
                for (Ask ask : some) ask.of(x);
            }), want);
        }
    }

    /** All combinations of edges for up to three numbers, a choice of them beyond; changing calls among them. */
    private static void nothingThrows(String state, Consumer<CutFloor> setUp, boolean changing) {
        at("nothing throws in " + state);
        Random random = new Random(11);
        for (String name : CALLS.keySet()) {
            if (CHANGING.contains(name) != changing) continue;
            int n = CALLS.get(name).getParameterCount();
            int all = n > 2 ? 3000 : (int) Math.pow(EDGES.length, n);
            CutFloor x = new CutFloor();
            setUp.accept(x);
            for (int i = 0; i < all; i++) {
                if (i % ASKED_OF_ONE == ASKED_OF_ONE - 1) {
                    x = new CutFloor();
                    setUp.accept(x);
                }
                int[] numbers = new int[n];
                for (int k = 0, rest = i; k < n; k++, rest /= EDGES.length) {
                    numbers[k] = EDGES[n > 2 ? random.nextInt(EDGES.length) : rest % EDGES.length];
                }
                new Ask(name, numbers).of(x);
            }
        }
        due("behind all", 0, 0);
    }

    /** Whatever is changed by whatever number, all can be asked behind it. */
    private static void anyRow(String state, Consumer<CutFloor> setUp) {
        at("nothing throws in any row behind " + state);
        Random random = new Random(17);
        List<String> names = new ArrayList<>(CALLS.keySet());
        for (int run = 0; run < 150; run++) {
            CutFloor x = new CutFloor();
            setUp.accept(x);
            for (int i = 0; i < ASKED_OF_ONE; i++) {
                String name = names.get(random.nextInt(names.size()));
                int[] numbers = new int[CALLS.get(name).getParameterCount()];
                for (int k = 0; k < numbers.length; k++) numbers[k] = EDGES[random.nextInt(3) > 0 ? 5 + random.nextInt(8) : random.nextInt(EDGES.length)];
                new Ask(name, numbers).of(x);
            }
        }
        due("behind all", 0, 0);
    }

    public static void main(String[] args) {
        for (Method m : CutFloor.class.getDeclaredMethods()) {
            if (Modifier.isPublic(m.getModifiers())) CALLS.put(m.getName(), m);
        }
        Map<String, Consumer<CutFloor>> states = new TreeMap<>();
        states.put("an empty hall", AnyCallTest::empty);
        states.put("a shop", AnyCallTest::shop);
        states.put("a hall without a PLAN", AnyCallTest::crowded);
        states.put("a full hall", AnyCallTest::full);
        for (String state : states.keySet()) {
            Consumer<CutFloor> setUp = states.get(state);
            at("calls that may be REFUSED in " + state);
            refusedChangesNothing(state, setUp);
            askingChangesNothing(state, setUp);
            nothingThrows(state, setUp, false);
            nothingThrows(state, setUp, true);
            anyRow(state, setUp);
        }
        finish("kinds of calls");
    }
}
