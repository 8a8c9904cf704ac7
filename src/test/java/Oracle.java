import java.util.ArrayList;
import java.util.Arrays;
import java.util.HashMap;
import java.util.List;
import java.util.Map;

/**
 * The document once more, written for plainness alone: strings, maps, exceptions, nothing kept between calls.
 * It shares no code with CutFloor; the random runs compare the two.
 */
public final class Oracle {
    static final int NONE = -1;
    static final int NOTHING = -100_000;
    static final long CAP = 1_000_000_000L;

    /** What an image keeps; copied whole. */
    static final class State implements Cloneable {
        int[] many = new int[3];
        int[][] weight = new int[10][3];
        int[][] market = new int[10][3];
        List<Integer> men = new ArrayList<>();
        int day = 0;
        int loss = 5;
        List<Clause> tree = new ArrayList<>();
        int[] told = new int[8];
        List<int[]> boxes = new ArrayList<>();
        List<int[]> yields = new ArrayList<>();

        State copy() {
            State s = new State();
            s.many = many.clone();
            for (int p = 0; p < 10; p++) {
                s.weight[p] = weight[p].clone();
                s.market[p] = market[p].clone();
            }
            s.men = new ArrayList<>(men);
            s.day = day;
            s.loss = loss;
            s.tree = tree;
            s.told = told.clone();
            for (int[] b : boxes) s.boxes.add(b.clone());
            s.yields = new ArrayList<>(yields);
            return s;
        }
    }

    static final class Clause {
        String kind;
        int part;
        int[] pieces = new int[10];
        Node sum;
        Node test;
    }

    static final class Node {
        String op;
        int number;
        Node a;
        Node b;

        Node(String op, Node a, Node b) {
            this.op = op;
            this.a = a;
            this.b = b;
        }
    }

    static final class Fault extends RuntimeException {
        final int at;

        Fault(int at) {
            super(null, null, false, false);
            this.at = at;
        }
    }

    static final class Broken extends RuntimeException {
        Broken() {
            super(null, null, false, false);
        }
    }

    static final class Refused extends RuntimeException {
        final int by;

        Refused(int by) {
            super(null, null, false, false);
            this.by = by;
        }
    }

    interface Call {
        int go();
    }

    State st = new State();
    State[] kept = new State[2];
    StringBuilder tape = new StringBuilder();
    int faultPlace = NONE;
    int spoiltMany = 0;
    int[][] lastWeek = null;
    Map<Integer, Integer> refusals = new HashMap<>();
    int latest = 0;

    private int watched(Call call) {
        try {
            int answer = call.go();
            latest = 0;
            return answer;
        } catch (Refused r) {
            latest = r.by;
            refusals.merge(r.by, 1, Integer::sum);
            return r.by;
        }
    }

    private static void need(boolean good, int by) {
        if (!good) throw new Refused(by);
    }

    private static boolean in(int x, int a, int b) {
        return a <= x && x <= b;
    }

    private int all() {
        return st.many[0] + st.many[1] + st.many[2];
    }

    private int orders() {
        int n = 0;
        for (int[] m : st.market) if (m[2] > 0) n++;
        return n;
    }

    public int carcasses(int cls, int many) {
        return watched(() -> {
            need(in(cls, 0, 2) && in(many, 0, 8), -1);
            need(all() - st.many[cls] + many <= 8, -3);
            int was = st.many[cls];
            st.many[cls] = many;
            return was;
        });
    }

    public int weighs(int part, int cls, int weight) {
        return watched(() -> {
            need(in(part, 0, 9) && in(cls, 0, 2) && in(weight, 0, 9999), -1);
            int was = st.weight[part][cls];
            st.weight[part][cls] = weight;
            return was;
        });
    }

    public int put(int part, int what, int value) {
        return watched(() -> {
            need(in(part, 0, 9) && in(what, 0, 2) && in(value, 0, what == 2 ? 8 : 999), -1);
            int was = st.market[part][what];
            st.market[part][what] = value;
            if (orders() > 5) {
                st.market[part][what] = was;
                throw new Refused(-3);
            }
            return was;
        });
    }

    public int man(int skills) {
        return watched(() -> {
            need(in(skills, 0, 15), -1);
            need(st.men.size() < 4, -5);
            st.men.add(skills);
            return st.men.size() - 1;
        });
    }

    public int skills(int man, int skills) {
        return watched(() -> {
            need(in(skills, 0, 15), -1);
            need(in(man, 0, st.men.size() - 1), -2);
            return st.men.set(man, skills);
        });
    }

    public int terms(int what, int value) {
        return watched(() -> {
            need(what == 0 && in(value, 0, 99) || what == 1 && in(value, 0, 100), -1);
            int was = what == 0 ? st.day : st.loss;
            if (what == 0) st.day = value;
            else st.loss = value;
            return was;
        });
    }

    public int feed(int a, int b, int c, int d, int e) {
        if (tape.length() + 20 > 400) return NONE;
        for (int x : new int[] {a, b, c, d, e}) {
            for (byte y : java.nio.ByteBuffer.allocate(4).putInt(x).array()) tape.append((char) (y & 0xff));
        }
        return tape.length();
    }

    public int end(int n) {
        if (n < 0 || n > tape.length()) return NONE;
        tape.setLength(n);
        return n;
    }

    public int tree() {
        String text = tape.toString();
        tape.setLength(0);
        return watched(() -> {
            try {
                st.tree = new Parser(text).clauses();
                faultPlace = NONE;
                return st.tree.size();
            } catch (Fault f) {
                faultPlace = f.at;
                throw new Refused(-6);
            }
        });
    }

    static final class Parser {
        final List<String> tokens = new ArrayList<>();
        final List<Integer> places = new ArrayList<>();
        int at = 0;
        int cuts = 0;
        int factors = 0;

        Parser(String text) {
            var m = java.util.regex.Pattern.compile("[a-z]+|[0-9]+|[^ ]", java.util.regex.Pattern.DOTALL).matcher(text);
            while (m.find()) {
                tokens.add(m.group());
                places.add(m.start());
            }
            tokens.add("");
            places.add(text.length());
        }

        Fault fault() {
            return new Fault(places.get(at));
        }

        String now() {
            return tokens.get(at);
        }

        boolean is(String t) {
            return now().equals(t);
        }

        void take(String t) {
            if (!is(t)) throw fault();
            at++;
        }

        int number(int least, int most) {
            if (!now().matches("[0-9]+")) throw fault();
            java.math.BigInteger n = new java.math.BigInteger(now());
            if (n.bitLength() > 30 || n.intValue() < least || n.intValue() > most) throw fault();
            at++;
            return n.intValue();
        }

        List<Clause> clauses() {
            List<Clause> list = new ArrayList<>();
            list.add(clause());
            while (!is("")) {
                take(";");
                if (list.size() == 24) throw fault();
                list.add(clause());
            }
            return list;
        }

        Clause clause() {
            Clause c = new Clause();
            c.kind = now();
            if (is("cut")) {
                if (cuts == 16) throw fault();
                cuts++;
                at++;
                c.part = number(0, 9);
                take("to");
                pieces(c);
                while (is("and")) {
                    at++;
                    pieces(c);
                }
            } else if (is("minutes") || is("skill")) {
                at++;
                c.sum = sum(0);
            } else {
                throw fault();
            }
            if (is("if")) {
                at++;
                c.test = test(0);
            }
            return c;
        }

        void pieces(Clause c) {
            int many = number(1, 9);
            int part = number(c.part + 1, 9);
            c.pieces[part] += many;
        }

        Node test(int depth) {
            Node n = both(depth);
            while (is("or")) {
                at++;
                n = new Node("or", n, both(depth));
            }
            return n;
        }

        Node both(int depth) {
            Node n = plain(depth);
            while (is("and")) {
                at++;
                n = new Node("and", n, plain(depth));
            }
            return n;
        }

        Node plain(int depth) {
            if (is("not")) {
                at++;
                return new Node("not", plain(depth), null);
            }
            if (is("(")) {
                if (depth == 8) throw fault();
                at++;
                Node n = test(depth + 1);
                take(")");
                return n;
            }
            Node a = sum(depth);
            String op = now();
            if (!op.matches("[<>=]")) throw fault();
            at++;
            return new Node(op, a, sum(depth));
        }

        Node sum(int depth) {
            Node n = term(depth);
            while (is("+") || is("-")) {
                String op = tokens.get(at++);
                n = new Node(op, n, term(depth));
            }
            return n;
        }

        Node term(int depth) {
            Node n = factor(depth);
            while (is("*") || is("/")) {
                String op = tokens.get(at++);
                n = new Node(op, n, factor(depth));
            }
            return n;
        }

        Node factor(int depth) {
            if (is("[")) {
                if (depth == 8) throw fault();
                at++;
                Node n = sum(depth + 1);
                take("]");
                return n;
            }
            boolean word = now().matches("class|part|way|day|weight");
            if (!word && !now().matches("[0-9]+")) throw fault();
            if (factors == 50) throw fault();
            factors++;
            Node n = new Node(word ? now() : "number", null, null);
            if (word) at++;
            else n.number = number(0, 1000);
            return n;
        }
    }

    public int fault() {
        return faultPlace;
    }

    private List<Clause> ways() {
        List<Clause> list = new ArrayList<>();
        for (Clause c : st.tree) if (c.kind.equals("cut")) list.add(c);
        return list;
    }

    public int way(int way, int what) {
        if (!in(way, 0, ways().size() - 1)) return NONE;
        if (what == 0) return ways().get(way).part;
        return in(what, 10, 19) ? ways().get(way).pieces[what - 10] : NONE;
    }

    private long sumOf(Node n, int way, int cls) {
        int part = ways().get(way).part;
        switch (n.op) {
            case "number": return n.number;
            case "class": return cls;
            case "part": return part;
            case "way": return way;
            case "day": return st.day;
            case "weight": return st.weight[part][cls];
            default:
        }
        long a = sumOf(n.a, way, cls);
        long b = sumOf(n.b, way, cls);
        if (n.op.equals("/") && b == 0) throw new Broken();
        long r = n.op.equals("+") ? a + b : n.op.equals("-") ? a - b : n.op.equals("*") ? a * b : a / b;
        if (Math.abs(r) > CAP) throw new Broken();
        return r;
    }

    private boolean isSo(Node n, int way, int cls) {
        switch (n.op) {
            case "or": return isSo(n.a, way, cls) || isSo(n.b, way, cls);
            case "and": return isSo(n.a, way, cls) && isSo(n.b, way, cls);
            case "not": return !isSo(n.a, way, cls);
            case "<": return sumOf(n.a, way, cls) < sumOf(n.b, way, cls);
            case ">": return sumOf(n.a, way, cls) > sumOf(n.b, way, cls);
            default: return sumOf(n.a, way, cls) == sumOf(n.b, way, cls);
        }
    }

    private boolean holds(Clause c, int way, int cls) {
        try {
            if (c.sum != null) sumOf(c.sum, way, cls);
            return c.test == null || isSo(c.test, way, cls);
        } catch (Broken b) {
            return false;
        }
    }

    private int told(String kind, int way, int cls, int without, int most) {
        long told = without;
        for (Clause c : st.tree) {
            if (c.kind.equals(kind) && holds(c, way, cls)) told = sumOf(c.sum, way, cls);
        }
        return (int) Math.max(0, Math.min(most, told));
    }

    public int goes(int way, int cls, int what) {
        if (!in(way, 0, ways().size() - 1) || !in(cls, 0, 2) || !in(what, 0, 4)) return NOTHING;
        Clause c = ways().get(way);
        if (what == 0) return holds(c, way, cls) ? 1 : 0;
        if (what == 1) return told("minutes", way, cls, 1, 60);
        if (what == 2) return told("skill", way, cls, 0, 3);
        int w = st.weight[c.part][cls];
        int waste = w;
        for (int p = 0; p < 10; p++) waste -= c.pieces[p] * st.weight[p][cls];
        if (what == 3) return waste;
        return waste < 0 || waste > w * st.loss / 100.0 + 1e-9 ? 1 : 0;
    }

    /** A cutting: choice of each part and what is left, 20 numbers. */
    private List<int[]> cutsOf(int cls) {
        List<int[]> list = new ArrayList<>();
        int[] amounts = new int[10];
        amounts[0] = 1;
        int[] cut = new int[20];
        Arrays.fill(cut, 0, 10, NONE);
        List<Clause> ways = ways();
        boolean[] open = new boolean[ways.size()];
        for (int w = 0; w < open.length; w++) open[w] = holds(ways.get(w), w, cls);
        gather(ways, open, 0, amounts, cut, list);
        return list;
    }

    private void gather(List<Clause> ways, boolean[] open, int part, int[] amounts, int[] cut, List<int[]> list) {
        if (list.size() > 64) return;
        if (part == 10) {
            int sum = 0;
            for (int p = 0; p < 10; p++) {
                cut[10 + p] = cut[p] == NONE ? amounts[p] : 0;
                sum += cut[10 + p];
            }
            if (sum <= 200) list.add(cut.clone());
            return;
        }
        cut[part] = NONE;
        gather(ways, open, part + 1, amounts, cut, list);
        if (amounts[part] == 0 || amounts[part] > 200) return;
        for (int w = 0; w < ways.size(); w++) {
            if (ways.get(w).part != part || !open[w]) continue;
            int[] then = amounts.clone();
            for (int p = 0; p < 10; p++) then[p] += amounts[part] * ways.get(w).pieces[p];
            cut[part] = w;
            gather(ways, open, part + 1, then, cut, list);
        }
        cut[part] = NONE;
    }

    public int cuttings(int cls) {
        return in(cls, 0, 2) ? cutsOf(cls).size() : NONE;
    }

    private int[] cutting(int cls, int i) {
        if (!in(cls, 0, 2)) return null;
        List<int[]> cuts = cutsOf(cls);
        return cuts.size() <= 64 && in(i, 0, cuts.size() - 1) ? cuts.get(i) : null;
    }

    public int choice(int cls, int i, int part) {
        int[] cut = cutting(cls, i);
        return cut == null || !in(part, 0, 9) ? NOTHING : cut[part];
    }

    public int left(int cls, int i, int part) {
        int[] cut = cutting(cls, i);
        return cut == null || !in(part, 0, 9) ? NONE : cut[10 + part];
    }

    private int brings(int[] n) {
        int sum = 0;
        for (int p = 0; p < 10; p++) {
            int wanted = Math.min(n[p], st.market[p][2]);
            sum += wanted * st.market[p][0] + (n[p] - wanted) * st.market[p][1];
        }
        return sum;
    }

    /** The best plans for a row of classes: what they bring, how many, the first, and the fewest changes. */
    static final class Solution {
        long brings;
        long plans;
        int[] first;
        int changes;
    }

    /** What can still be had from here on: most, in how many ways, with how many kept at most. */
    static final class Rest {
        long most = Long.MIN_VALUE;
        long ways;
        int kept;
    }

    /** null if there is no plan; keep: the cutting each carcass would like to keep (or null). */
    private Solution solve(int[] row, int[] keep) {
        List<List<int[]>> cuts = new ArrayList<>();
        List<List<int[]>> byClass = new ArrayList<>(Arrays.asList(null, null, null));
        for (int cls : row) {
            if (byClass.get(cls) == null) byClass.set(cls, cutsOf(cls));
            if (byClass.get(cls).size() > 64) return null;
            cuts.add(byClass.get(cls));
        }
        double plans = 1;
        for (List<int[]> c : cuts) plans *= c.size();
        return plans <= 3000 ? solveByAll(cuts, keep) : solveByStates(cuts, keep);
    }

    private Solution solveByAll(List<List<int[]>> cuts, int[] keep) {
        int n = cuts.size();
        int[] plan = new int[n];
        Solution s = new Solution();
        s.brings = -1;
        while (true) {
            int[] sum = new int[10];
            int changes = 0;
            for (int i = 0; i < n; i++) {
                for (int p = 0; p < 10; p++) sum[p] += cuts.get(i).get(plan[i])[10 + p];
                if (keep != null && keep[i] != plan[i]) changes++;
            }
            int b = brings(sum);
            if (b > s.brings) {
                s.brings = b;
                s.plans = 1;
                s.first = plan.clone();
                s.changes = changes;
            } else if (b == s.brings) {
                s.plans++;
                s.changes = Math.min(s.changes, changes);
            }
            int i = n - 1;
            while (i >= 0 && plan[i] == cuts.get(i).size() - 1) plan[i--] = 0;
            if (i < 0) break;
            plan[i]++;
        }
        return s;
    }

    private Solution solveByStates(List<List<int[]>> cuts, int[] keep) {
        List<Map<Long, Rest>> memo = new ArrayList<>();
        for (int i = 0; i <= cuts.size(); i++) memo.add(new HashMap<>());
        int[] start = new int[10];
        Rest r = rest(cuts, keep, 0, start, memo);
        Solution s = new Solution();
        s.brings = r.most;
        s.plans = r.ways;
        s.changes = cuts.size() - r.kept;
        s.first = new int[cuts.size()];
        int[] have = start;
        for (int i = 0; i < cuts.size(); i++) {
            long most = rest(cuts, keep, i, have, memo).most;
            for (int c = 0; c < cuts.get(i).size(); c++) {
                int[] then = capped(have, cuts.get(i).get(c));
                if (gain(have, cuts.get(i).get(c)) + rest(cuts, keep, i + 1, then, memo).most == most) {
                    s.first[i] = c;
                    have = then;
                    break;
                }
            }
        }
        return s;
    }

    private int[] capped(int[] have, int[] cut) {
        int[] then = new int[10];
        for (int p = 0; p < 10; p++) then[p] = Math.min(st.market[p][2], have[p] + cut[10 + p]);
        return then;
    }

    private int gain(int[] have, int[] cut) {
        int gain = 0;
        for (int p = 0; p < 10; p++) {
            for (int k = 0; k < cut[10 + p]; k++) gain += st.market[p][have[p] + k < st.market[p][2] ? 0 : 1];
        }
        return gain;
    }

    private Rest rest(List<List<int[]>> cuts, int[] keep, int i, int[] have, List<Map<Long, Rest>> memo) {
        long key = 0;
        for (int p = 0; p < 10; p++) key = key * 9 + have[p];
        Rest r = memo.get(i).get(key);
        if (r != null) return r;
        r = new Rest();
        if (i == cuts.size()) {
            r.most = 0;
            r.ways = 1;
        } else {
            for (int c = 0; c < cuts.get(i).size(); c++) {
                int[] cut = cuts.get(i).get(c);
                Rest next = rest(cuts, keep, i + 1, capped(have, cut), memo);
                long most = gain(have, cut) + next.most;
                int kept = next.kept + (keep != null && keep[i] == c ? 1 : 0);
                if (most > r.most) {
                    r.most = most;
                    r.ways = next.ways;
                    r.kept = kept;
                } else if (most == r.most) {
                    r.ways = Math.min(CAP, r.ways + next.ways);
                    r.kept = Math.max(r.kept, kept);
                }
            }
        }
        memo.get(i).put(key, r);
        return r;
    }

    private int[] rowOf(int[] many) {
        int[] row = new int[many[0] + many[1] + many[2]];
        for (int i = 0; i < row.length; i++) row[i] = i < many[0] ? 0 : i < many[0] + many[1] ? 1 : 2;
        return row;
    }

    private Solution now() {
        return solve(rowOf(st.many), null);
    }

    public int best(int what) {
        Solution s = now();
        if (s == null || !in(what, 0, 1)) return NONE;
        return (int) (what == 0 ? s.brings : Math.min(CAP, s.plans));
    }

    public int plan(int i) {
        Solution s = now();
        return s == null || !in(i, 0, all() - 1) ? NONE : s.first[i];
    }

    private int[] counts(int[] plan) {
        int[] sum = new int[10];
        int[] row = rowOf(st.many);
        for (int i = 0; i < row.length; i++) {
            int[] cut = cutsOf(row[i]).get(plan[i]);
            for (int p = 0; p < 10; p++) sum[p] += cut[10 + p];
        }
        return sum;
    }

    public int made(int part, int what) {
        Solution s = now();
        if (s == null || !in(part, 0, 9) || !in(what, 0, 1)) return NONE;
        int n = counts(s.first)[part];
        return what == 0 ? n : Math.max(0, st.market[part][2] - n);
    }

    public int value(int cls) {
        Solution s = now();
        if (s == null || !in(cls, 0, 2) || all() == 8) return NONE;
        int[] many = st.many.clone();
        many[cls]++;
        Solution more = solve(rowOf(many), null);
        return more == null ? NONE : (int) (more.brings - s.brings);
    }

    public int shorts(int cls) {
        Solution s = now();
        if (s == null || !in(cls, 0, 2) || st.many[cls] == 0) return NOTHING;
        int[] many = st.many.clone();
        many[cls]--;
        return (int) (s.brings - solve(rowOf(many), null).brings);
    }

    public int worth(int part) {
        Solution s = now();
        if (s == null || !in(part, 0, 9) || st.market[part][2] == 8) return NONE;
        st.market[part][2]++;
        try {
            return orders() > 5 ? NONE : (int) (now().brings - s.brings);
        } finally {
            st.market[part][2]--;
        }
    }

    public int change(int cls, int what) {
        Solution s = now();
        if (s == null || !in(cls, 0, 2) || !in(what, 0, 1) || st.many[cls] == 0) return NONE;
        int[] row = rowOf(st.many);
        int last = -1;
        for (int i = 0; i < row.length; i++) if (row[i] == cls) last = i;
        int[] others = new int[row.length - 1];
        int[] keep = new int[row.length - 1];
        for (int i = 0, j = 0; i < row.length; i++) {
            if (i != last) {
                others[j] = row[i];
                keep[j++] = s.first[i];
            }
        }
        Solution o = solve(others, keep);
        return what == 0 ? o.changes : (int) o.brings;
    }

    public int give(int i, int cutting) {
        return watched(() -> {
            need(in(i, 0, 7) && in(cutting, 0, 63), -1);
            int was = st.told[i];
            st.told[i] = cutting;
            return was;
        });
    }

    public int given(int what) {
        Solution s = now();
        if (s == null || !in(what, 0, 3)) return NONE;
        int[] row = rowOf(st.many);
        int[] plan = new int[row.length];
        int other = 0;
        for (int i = 0; i < row.length; i++) {
            plan[i] = st.told[i] < cutsOf(row[i]).size() ? st.told[i] : 0;
            if (plan[i] != s.first[i]) other++;
        }
        int[] sum = counts(plan);
        if (what == 0) return brings(sum);
        if (what == 1) return (int) (s.brings - brings(sum));
        if (what == 2) return other;
        int lack = 0;
        for (int p = 0; p < 10; p++) lack += Math.max(0, st.market[p][2] - sum[p]);
        return lack;
    }

    /** By way: minutes and skill; null where it is not gone. */
    private int[][] tasks(Solution s) {
        List<Clause> ways = ways();
        int[][] tasks = new int[ways.size()][];
        int[] row = rowOf(st.many);
        for (int i = 0; i < row.length; i++) {
            int[] cut = cutsOf(row[i]).get(s.first[i]);
            int[] amounts = new int[10];
            amounts[0] = 1;
            for (int p = 0; p < 10; p++) {
                int w = cut[p];
                if (w == NONE) continue;
                for (int q = 0; q < 10; q++) amounts[q] += amounts[p] * ways.get(w).pieces[q];
                if (tasks[w] == null) tasks[w] = new int[] {0, goes(w, row[i], 2)};
                tasks[w][0] += amounts[p] * goes(w, row[i], 1);
            }
        }
        return tasks;
    }

    public int task(int way) {
        Solution s = now();
        if (s == null || !in(way, NONE, ways().size() - 1)) return NONE;
        int[][] tasks = tasks(s);
        if (way >= 0) return tasks[way] == null ? 0 : tasks[way][0];
        int sum = 0;
        for (int[] t : tasks) sum += t == null ? 0 : t[0];
        return sum;
    }

    public int share(int way) {
        Solution s = now();
        if (s == null || !in(way, NONE, ways().size() - 1)) return NONE;
        int[][] tasks = tasks(s);
        List<Integer> list = new ArrayList<>();
        for (int w = 0; w < tasks.length; w++) if (tasks[w] != null) list.add(w);
        if (list.size() > 10) return NONE;
        int[] men = new int[list.size()];
        int[] best = null;
        int longest = Integer.MAX_VALUE;
        if (st.men.isEmpty() && !list.isEmpty()) return NONE;
        while (true) {
            int[] load = new int[4];
            boolean able = true;
            for (int i = 0; i < men.length; i++) {
                int[] t = tasks[list.get(i)];
                able &= (st.men.get(men[i]) & 1 << t[1]) != 0;
                load[men[i]] += t[0];
            }
            int l = Math.max(Math.max(load[0], load[1]), Math.max(load[2], load[3]));
            if (able && l < longest) {
                longest = l;
                best = men.clone();
            }
            int i = men.length - 1;
            while (i >= 0 && men[i] == st.men.size() - 1) men[i--] = 0;
            if (i < 0) break;
            men[i]++;
        }
        if (best == null) return NONE;
        if (way == NONE) return longest;
        int at = list.indexOf(way);
        return at < 0 ? NONE : best[at];
    }

    private static boolean boxGood(int[] b) {
        return in(b[0], 1, 99) && in(b[1], 0, 100) && in(b[2], 0, 99) && in(b[3], 0, 3) && in(b[4], 0, 23)
                && in(b[5], 0, 255);
    }

    public int box(int weight, int lean, int made, int table, int hour, int carcasses) {
        int[] b = {weight, lean, made, table, hour, carcasses, 1};
        return watched(() -> {
            need(boxGood(b), -1);
            need(st.boxes.size() < 16, -5);
            st.boxes.add(b);
            return st.boxes.size() - 1;
        });
    }

    public int of(int box, int what) {
        return in(box, 0, st.boxes.size() - 1) && in(what, 0, 6) ? st.boxes.get(box)[what] : NONE;
    }

    public int row() {
        String text = tape.toString();
        tape.setLength(0);
        return watched(() -> {
            need(text.length() > 0, -6);
            int came = 0;
            int bad = 0;
            for (int at = 0; at < text.length(); at += 6) {
                int[] b = {0, 0, 0, 0, 0, 0, 1};
                boolean whole = at + 6 <= text.length();
                for (int k = 0; whole && k < 6; k++) b[k] = text.charAt(at + k);
                if (whole && boxGood(b) && st.boxes.size() < 16) {
                    st.boxes.add(b);
                    came++;
                } else {
                    bad++;
                }
            }
            spoiltMany = bad;
            return came;
        });
    }

    public int spoilt() {
        return spoiltMany;
    }

    public int mix(int from, int to, int lean, int what) {
        if (!in(from, 1, 1584) || !in(to, 1, 1584) || !in(lean, 0, 100) || !in(what, 0, 2)) return NONE;
        int least = Integer.MAX_VALUE;
        int bits = 0;
        int many = 0;
        int n = st.boxes.size();
        next:
        for (int m = 1; m < 1 << n; m++) {
            int w = 0;
            int l = 0;
            for (int b = 0; b < n; b++) {
                if ((m >> b & 1) == 0) continue;
                int[] x = st.boxes.get(b);
                if (x[6] == 0) continue next;
                w += x[0];
                l += x[0] * x[1];
            }
            if (w < from || w > to || l < w * lean) continue;
            many++;
            if (l - w * lean < least) {
                least = l - w * lean;
                bits = m;
            }
        }
        if (what == 2) return many;
        return many == 0 ? NONE : what == 0 ? least : bits;
    }

    public int send(int n, int day, int least, int most) {
        return watched(() -> {
            need(in(n, 1, 16) && in(day, 0, 99) && in(least, 0, 99) && in(most, 0, 99), -1);
            List<Integer> fit = new ArrayList<>();
            for (int b = 0; b < st.boxes.size(); b++) {
                int[] x = st.boxes.get(b);
                if (x[6] == 1 && in(day - x[2], least, most)) fit.add(b);
            }
            fit.sort((a, b) -> st.boxes.get(a)[2] - st.boxes.get(b)[2]);
            int bits = 0;
            for (int i = 0; i < Math.min(n, fit.size()); i++) {
                bits |= 1 << fit.get(i);
                st.boxes.get(fit.get(i))[6] = 0;
            }
            return bits;
        });
    }

    public int again(int box) {
        return watched(() -> {
            need(in(box, 0, st.boxes.size() - 1), -2);
            need(st.boxes.get(box)[6] == 0, -3);
            st.boxes.get(box)[6] = 1;
            return 0;
        });
    }

    public int recall(int carcasses, int box) {
        if (!in(carcasses, 0, 255) || !in(box, NONE, st.boxes.size() - 1)) return NONE;
        int n = st.boxes.size();
        int got = 0;
        int[] round = new int[n];
        Arrays.fill(round, NONE);
        for (int r = 0; r <= n; r++) {
            int more = 0;
            for (int b = 0; b < n; b++) {
                int[] x = st.boxes.get(b);
                boolean hit = r == 0 && (x[5] & carcasses) != 0;
                for (int o = 0; r > 0 && o < n; o++) {
                    int[] y = st.boxes.get(o);
                    if ((got >> o & 1) == 1 && ((x[5] & y[5]) != 0 || x[2] == y[2] && x[3] == y[3] && x[4] == y[4])) hit = true;
                }
                if (hit && (got >> b & 1) == 0) {
                    more |= 1 << b;
                    round[b] = r;
                }
            }
            got |= more;
        }
        return box == NONE ? got : round[box];
    }

    public int yields(int told, int got) {
        return watched(() -> {
            need(in(told, 0, 999) && in(got, 0, 999), -1);
            need(st.yields.size() < 40, -5);
            st.yields.add(new int[] {told, got});
            return st.yields.size();
        });
    }

    public int drift(int allow, int limit, int what) {
        if (!in(allow, 0, 99) || !in(limit, 0, 9999) || !in(what, 0, 1)) return NONE;
        int sum = 0;
        int top = 0;
        int which = NONE;
        for (int i = st.yields.size() - 1; i >= 0; i--) {
            // from behind: the sum behind each yield is reckoned from the start anew
            sum = 0;
            for (int j = 0; j <= i; j++) {
                sum += st.yields.get(j)[0] - st.yields.get(j)[1] - allow;
                if (sum < 0) sum = 0;
            }
            if (sum > limit) which = i;
            if (sum > top) top = sum;
        }
        return what == 0 ? which : top;
    }

    public int week(int seed) {
        return watched(() -> {
            need(in(seed, 0, 1_000_000), -1);
            long s = seed;
            int[][] days = new int[5][3];
            long sum = 0;
            for (int[] d : days) {
                for (int c = 0; c < 3; c++) {
                    s = (s * 1103 + 12345) % 1_000_003;
                    d[c] = (int) (s % (st.many[c] + 1));
                }
            }
            for (int[] d : days) {
                Solution x = solve(rowOf(d), null);
                need(x != null, -3);
                sum += x.brings;
            }
            lastWeek = days;
            return (int) sum;
        });
    }

    public int came(int day, int cls) {
        return lastWeek == null || !in(day, 0, 4) || !in(cls, 0, 2) ? NONE : lastWeek[day][cls];
    }

    public int image(int k) {
        return watched(() -> {
            need(in(k, 0, 1), -1);
            kept[k] = st.copy();
            return 0;
        });
    }

    public int back(int k) {
        return watched(() -> {
            need(in(k, 0, 1), -1);
            need(kept[k] != null, -2);
            st = kept[k].copy();
            return 0;
        });
    }

    public int count(int what) {
        int there = 0;
        for (int[] b : st.boxes) there += b[6];
        switch (what) {
            case 0: return all();
            case 1: return st.tree.size();
            case 2: return ways().size();
            case 3: return st.men.size();
            case 4: return there;
            case 5: return st.boxes.size();
            case 6: return st.yields.size();
            case 7: return orders();
            case 8: return tape.length();
            case 9: return refusals.getOrDefault(-1, 0);
            case 10: return refusals.getOrDefault(-2, 0);
            case 11: return refusals.getOrDefault(-3, 0);
            case 12: return refusals.getOrDefault(-5, 0);
            case 13: return refusals.getOrDefault(-6, 0);
            default: return NONE;
        }
    }

    public int status() {
        return latest;
    }
}
