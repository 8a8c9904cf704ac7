import java.util.Arrays;

/** A cutting hall, as the document CutFloor tells it in its numbered promises. */
public final class CutFloor {
    public static final int NONE = -1;

    private static final int NOTHING = -100_000;

    private static final int CLASSES = 3;
    private static final int PARTS = 10;
    private static final int CARCASSES = 8;
    private static final int ORDERS = 5;
    private static final int MOST_ORDERED = 8;
    private static final int MEN = 4;
    private static final int SKILLS = 4;
    private static final int TAPE = 400;
    private static final int CLAUSES = 24;
    private static final int WAYS = 16;
    private static final int CUTTINGS = 64;
    private static final int MOST_LEFT = 200;
    private static final int TASKS = 10;
    private static final int BOXES = 16;
    private static final int YIELDS = 40;
    private static final int DAYS = 5;
    private static final int IMAGES = 2;
    private static final int MOST_COUNTED = 1_000_000_000;

    private static final int PRICE = 0;
    private static final int OVER = 1;
    private static final int ORDER = 2;

    private static final int WEIGHT = 0;
    private static final int LEAN = 1;
    private static final int MADE = 2;
    private static final int TABLE = 3;
    private static final int HOUR = 4;
    private static final int TOUCHED = 5;
    private static final int THERE = 6;
    private static final int BOX_FACTS = 7;

    private static final int CUT = 0;
    private static final int MINUTES = 1;
    private static final int SKILL = 2;

    private static final int CANNOT_BE = -1;
    private static final int NO_SUCH = -2;
    private static final int STANDS_AGAINST = -3;
    private static final int NO_ROOM = -5;
    private static final int UNREADABLE = -6;

    private final Hall hall = new Hall();
    private final Hall[] images = new Hall[IMAGES];
    private final Asker asker = new Asker(hall);
    private final Planner planner = new Planner(hall, asker);
    private final Crew crew = new Crew(hall, asker, planner);
    private final Mixer mixer = new Mixer(hall);
    private final Stock stock = new Stock(hall);
    private final int[] tape = new int[TAPE];
    private final int[] drawn = new int[DAYS * CLASSES];
    private final int[] latestWeek = new int[DAYS * CLASSES];
    private final int[] refusals = new int[5];
    private Tree spareTree = new Tree();
    private final Reader reader = new Reader(spareTree, tape);
    private int tapeLength = 0;
    private int treesRead = 0;
    private int faultAt = NONE;
    private int spoiltBoxes = 0;
    private boolean weekThere = false;
    private int latestStatus = 0;

    public CutFloor() {
    }

    public int carcasses(int cls, int many) {
        if (!within(cls, 0, CLASSES - 1) || !within(many, 0, CARCASSES)) {
            return refuse(CANNOT_BE);
        }
        int before = hall.many[cls];
        if (hall.allCarcasses() - before + many > CARCASSES) {
            return refuse(STANDS_AGAINST);
        }
        hall.many[cls] = many;
        planner.forgetFirst();
        crew.forget();
        return allow(before);
    }

    public int weighs(int part, int cls, int weight) {
        if (!within(part, 0, PARTS - 1) || !within(cls, 0, CLASSES - 1) || !within(weight, 0, 9999)) {
            return refuse(CANNOT_BE);
        }
        int at = part * CLASSES + cls;
        int before = hall.weights[at];
        hall.weights[at] = weight;
        forgetWays();
        return allow(before);
    }

    public int put(int part, int what, int value) {
        if (!within(part, 0, PARTS - 1) || !within(what, PRICE, ORDER)
                || !within(value, 0, what == ORDER ? MOST_ORDERED : 999)) {
            return refuse(CANNOT_BE);
        }
        int at = what * PARTS + part;
        int before = hall.market[at];
        if (what == ORDER && value > 0 && before == 0 && hall.ordersAboveZero() >= ORDERS) {
            return refuse(STANDS_AGAINST);
        }
        hall.market[at] = value;
        planner.forgetPlans();
        crew.forget();
        return allow(before);
    }

    public int man(int skills) {
        if (!within(skills, 0, (1 << SKILLS) - 1)) {
            return refuse(CANNOT_BE);
        }
        int number = hall.men;
        if (number >= MEN) {
            return refuse(NO_ROOM);
        }
        hall.menSkills[number] = skills;
        hall.men = number + 1;
        crew.forget();
        return allow(number);
    }

    public int skills(int man, int skills) {
        if (!within(skills, 0, (1 << SKILLS) - 1)) {
            return refuse(CANNOT_BE);
        }
        if (!within(man, 0, hall.men - 1)) {
            return refuse(NO_SUCH);
        }
        int before = hall.menSkills[man];
        hall.menSkills[man] = skills;
        crew.forget();
        return allow(before);
    }

    public int terms(int what, int value) {
        if (!within(what, 0, 1) || !within(value, 0, what == 0 ? 99 : 100)) {
            return refuse(CANNOT_BE);
        }
        if (what == 1) {
            int loss = hall.loss;
            hall.loss = value;
            return allow(loss);
        }
        int day = hall.day;
        hall.day = value;
        forgetWays();
        return allow(day);
    }

    public int feed(int a, int b, int c, int d, int e) {
        if (tapeLength > TAPE - 20) {
            return NONE;
        }
        feedFour(a);
        feedFour(b);
        feedFour(c);
        feedFour(d);
        feedFour(e);
        return tapeLength;
    }

    public int end(int n) {
        if (!within(n, 0, tapeLength)) {
            return NONE;
        }
        tapeLength = n;
        return n;
    }

    public int tree() {
        Tree read = spareTree;
        faultAt = reader.readTree(tapeLength, read);
        tapeLength = 0;
        if (faultAt != NONE) {
            return refuse(UNREADABLE);
        }
        treesRead++;
        read.serial = treesRead;
        spareTree = hall.tree;
        hall.tree = read;
        forgetWays();
        return allow(read.clauseCount);
    }

    public int fault() {
        return faultAt;
    }

    public int way(int way, int what) {
        Tree told = hall.tree;
        if (!within(way, 0, told.wayCount - 1)) {
            return NONE;
        }
        if (what == 0) {
            return told.wayParts[way];
        }
        return within(what, PARTS, 2 * PARTS - 1) ? told.pieces[way * PARTS + what - PARTS] : NONE;
    }

    public int goes(int way, int cls, int what) {
        if (!within(way, 0, hall.tree.wayCount - 1) || !within(cls, 0, CLASSES - 1)) {
            return NOTHING;
        }
        switch (what) {
            case 0:
                return asker.canBeGone(way, cls) ? 1 : 0;
            case 1:
                return asker.latestOf(MINUTES, way, cls);
            case 2:
                return asker.latestOf(SKILL, way, cls);
            case 3:
                return hall.wasteOf(way, cls);
            case 4:
                return hall.isOff(way, cls) ? 1 : 0;
            default:
                return NOTHING;
        }
    }

    public int cuttings(int cls) {
        if (!within(cls, 0, CLASSES - 1)) {
            return NONE;
        }
        planner.renewCuttings();
        return planner.cuttings[cls].many;
    }

    public int choice(int cls, int i, int part) {
        if (!isThere(cls, i, part)) {
            return NOTHING;
        }
        return planner.cuttings[cls].choices[i * PARTS + part];
    }

    public int left(int cls, int i, int part) {
        if (!isThere(cls, i, part)) {
            return NONE;
        }
        return planner.cuttings[cls].lefts[i * PARTS + part];
    }

    public int best(int what) {
        if (!within(what, 0, 1) || !hasPlan()) {
            return NONE;
        }
        return what == 0 ? planner.bestNow() : planner.plansNow();
    }

    public int plan(int i) {
        if (!within(i, 0, hall.allCarcasses() - 1) || !hasPlan()) {
            return NONE;
        }
        planner.findFirst();
        return planner.first[i];
    }

    public int made(int part, int what) {
        if (!within(part, 0, PARTS - 1) || !within(what, 0, 1) || !hasPlan()) {
            return NONE;
        }
        planner.findFirst();
        int many = planner.manyInFirst(part);
        return what == 0 ? many : hall.lacking(part, many);
    }

    public int value(int cls) {
        if (!within(cls, 0, CLASSES - 1) || !hasPlan()) {
            return NONE;
        }
        int then = planner.bestWith(cls, 1);
        return then == NONE ? NONE : then - planner.bestNow();
    }

    public int shorts(int cls) {
        if (!within(cls, 0, CLASSES - 1) || !hasPlan()) {
            return NOTHING;
        }
        int then = planner.bestWith(cls, -1);
        return then == NONE ? NOTHING : planner.bestNow() - then;
    }

    public int worth(int part) {
        return within(part, 0, PARTS - 1) && hasPlan() ? planner.worthOf(part) : NONE;
    }

    public int change(int cls, int what) {
        if (!within(cls, 0, CLASSES - 1) || !within(what, 0, 1) || hall.many[cls] == 0 || !hasPlan()) {
            return NONE;
        }
        planner.findFirst();
        planner.findChange(cls);
        return what == 0 ? planner.changes[cls] : planner.othersBring[cls];
    }

    public int give(int i, int cutting) {
        if (!within(i, 0, CARCASSES - 1) || !within(cutting, 0, CUTTINGS - 1)) {
            return refuse(CANNOT_BE);
        }
        int before = hall.told[i];
        hall.told[i] = cutting;
        return allow(before);
    }

    public int given(int what) {
        if (!within(what, 0, 3) || !hasPlan()) {
            return NONE;
        }
        planner.findFirst();
        switch (what) {
            case 0:
                return planner.toldBrings();
            case 1:
                return planner.bestNow() - planner.toldBrings();
            case 2:
                return planner.toldOtherwise();
            default:
                return planner.toldLacks();
        }
    }

    public int task(int way) {
        if (!within(way, NONE, hall.tree.wayCount - 1) || !hasPlan()) {
            return NONE;
        }
        planner.findFirst();
        crew.listTasks();
        return way == NONE ? crew.minutesInAll : crew.minutes[way];
    }

    public int share(int way) {
        if (!within(way, NONE, hall.tree.wayCount - 1) || !hasPlan()) {
            return NONE;
        }
        planner.findFirst();
        crew.listTasks();
        crew.shareTasks();
        return way == NONE ? crew.longest : crew.menOfWays[way];
    }

    public int box(int weight, int lean, int made, int table, int hour, int carcasses) {
        if (!stock.canBe(weight, lean, made, table, hour, carcasses)) {
            return refuse(CANNOT_BE);
        }
        if (hall.boxCount >= BOXES) {
            return refuse(NO_ROOM);
        }
        mixer.forget();
        return allow(stock.store(weight, lean, made, table, hour, carcasses));
    }

    public int of(int box, int what) {
        if (!within(box, 0, hall.boxCount - 1) || !within(what, 0, BOX_FACTS - 1)) {
            return NONE;
        }
        return hall.boxes[box * BOX_FACTS + what];
    }

    public int row() {
        if (tapeLength == 0) {
            return refuse(UNREADABLE);
        }
        int sixes = (tapeLength + 5) / 6;
        int came = stock.storeRow(tape, tapeLength);
        spoiltBoxes = sixes - came;
        tapeLength = 0;
        mixer.forget();
        return allow(came);
    }

    public int spoilt() {
        return spoiltBoxes;
    }

    public int mix(int from, int to, int lean, int what) {
        if (!within(from, 1, 1584) || !within(to, 1, 1584) || !within(lean, 0, 100) || !within(what, 0, 2)) {
            return NONE;
        }
        mixer.seek(from, to, lean);
        if (what == 2) {
            return mixer.mixes;
        }
        if (mixer.mixes == 0) {
            return NONE;
        }
        return what == 0 ? mixer.givenAway : mixer.boxBits;
    }

    public int send(int n, int day, int least, int most) {
        if (!within(n, 1, BOXES) || !within(day, 0, 99) || !within(least, 0, 99) || !within(most, 0, 99)) {
            return refuse(CANNOT_BE);
        }
        mixer.forget();
        return allow(stock.takeOldest(n, day, least, most));
    }

    public int again(int box) {
        if (!within(box, 0, hall.boxCount - 1)) {
            return refuse(NO_SUCH);
        }
        int at = box * BOX_FACTS + THERE;
        if (hall.boxes[at] == 1) {
            return refuse(STANDS_AGAINST);
        }
        hall.boxes[at] = 1;
        mixer.forget();
        return allow(0);
    }

    public int recall(int carcasses, int box) {
        if (!within(carcasses, 0, 255) || !within(box, NONE, hall.boxCount - 1)) {
            return NONE;
        }
        return box == NONE ? stock.recalledBits(carcasses) : stock.recallRound(carcasses, box);
    }

    public int yields(int told, int got) {
        if (!within(told, 0, 999) || !within(got, 0, 999)) {
            return refuse(CANNOT_BE);
        }
        int at = hall.yieldCount;
        if (at >= YIELDS) {
            return refuse(NO_ROOM);
        }
        hall.shortfalls[at] = told - got;
        hall.yieldCount = at + 1;
        return allow(at + 1);
    }

    public int drift(int allow, int limit, int what) {
        if (!within(allow, 0, 99) || !within(limit, 0, 9999) || !within(what, 0, 1)) {
            return NONE;
        }
        int sum = 0;
        int greatest = 0;
        int first = NONE;
        for (int i = 0; i < hall.yieldCount; i++) {
            sum = Math.max(0, sum + hall.shortfalls[i] - allow);
            greatest = Math.max(greatest, sum);
            if (first == NONE && sum > limit) {
                first = i;
            }
        }
        return what == 0 ? first : greatest;
    }

    public int week(int seed) {
        if (!within(seed, 0, 1_000_000)) {
            return refuse(CANNOT_BE);
        }
        drawWeek(seed);
        planner.renewCuttings();
        int brings = 0;
        for (int day = 0; day < DAYS; day++) {
            int at = day * CLASSES;
            int best = planner.bestFor(drawn[at], drawn[at + 1], drawn[at + 2]);
            if (best == NONE) {
                return refuse(STANDS_AGAINST);
            }
            brings += best;
        }
        System.arraycopy(drawn, 0, latestWeek, 0, DAYS * CLASSES);
        weekThere = true;
        return allow(brings);
    }

    public int came(int day, int cls) {
        if (!weekThere || !within(day, 0, DAYS - 1) || !within(cls, 0, CLASSES - 1)) {
            return NONE;
        }
        return latestWeek[day * CLASSES + cls];
    }

    public int image(int k) {
        if (!within(k, 0, IMAGES - 1)) {
            return refuse(CANNOT_BE);
        }
        Hall kept = images[k];
        if (kept == null) {
            kept = new Hall();
            images[k] = kept;
        }
        kept.copyFrom(hall);
        return allow(0);
    }

    public int back(int k) {
        if (!within(k, 0, IMAGES - 1)) {
            return refuse(CANNOT_BE);
        }
        Hall kept = images[k];
        if (kept == null) {
            return refuse(NO_SUCH);
        }
        hall.copyFrom(kept);
        forgetWays();
        planner.forgetPlans();
        mixer.forget();
        return allow(0);
    }

    public int count(int what) {
        if (within(what, 9, 13)) {
            return refusals[what - 9];
        }
        switch (what) {
            case 0:
                return hall.allCarcasses();
            case 1:
                return hall.tree.clauseCount;
            case 2:
                return hall.tree.wayCount;
            case 3:
                return hall.men;
            case 4:
                return stock.boxesThere();
            case 5:
                return hall.boxCount;
            case 6:
                return hall.yieldCount;
            case 7:
                return hall.ordersAboveZero();
            case 8:
                return tapeLength;
            default:
                return NONE;
        }
    }

    public int status() {
        return latestStatus;
    }

    private static boolean within(int number, int least, int most) {
        return number >= least && number <= most;
    }

    private int allow(int answer) {
        latestStatus = 0;
        return answer;
    }

    private int refuse(int by) {
        latestStatus = by;
        int at = by >= STANDS_AGAINST ? -1 - by : -2 - by;
        if (within(at, 0, refusals.length - 1)) {
            refusals[at]++;
        }
        return by;
    }

    private void feedFour(int bytes) {
        for (int shift = 24; shift >= 0 && tapeLength < TAPE; shift -= 8) {
            tape[tapeLength] = bytes >>> shift & 255;
            tapeLength++;
        }
    }

    /** What ways can be gone hangs on TREE, WEIGHTS and DAY; the planner looks whether it truly changed. */
    private void forgetWays() {
        planner.forgetWays();
        crew.forget();
    }

    private boolean hasPlan() {
        planner.renewCuttings();
        return planner.bestFor(hall.many[0], hall.many[1], hall.many[2]) != NONE;
    }

    private boolean isThere(int cls, int cutting, int part) {
        if (!within(cls, 0, CLASSES - 1) || !within(part, 0, PARTS - 1)) {
            return false;
        }
        planner.renewCuttings();
        int many = planner.cuttings[cls].many;
        return many <= CUTTINGS && within(cutting, 0, many - 1);
    }

    private void drawWeek(int seed) {
        int s = seed;
        for (int i = 0; i < DAYS * CLASSES; i++) {
            s = (s * 1103 + 12345) % 1_000_003;
            drawn[i] = s % (hall.many[i % CLASSES] + 1);
        }
    }

    /** All that an IMAGE keeps. */
    private static final class Hall {
        private final int[] many = new int[CLASSES];
        private final int[] weights = new int[PARTS * CLASSES];
        private final int[] market = new int[(ORDER + 1) * PARTS];
        private final int[] menSkills = new int[MEN];
        private final int[] told = new int[CARCASSES];
        private final int[] boxes = new int[BOXES * BOX_FACTS];
        private final int[] shortfalls = new int[YIELDS];
        private Tree tree = new Tree();
        private int men = 0;
        private int boxCount = 0;
        private int yieldCount = 0;
        private int day = 0;
        private int loss = 5;

        void copyFrom(Hall other) {
            System.arraycopy(other.many, 0, many, 0, many.length);
            System.arraycopy(other.weights, 0, weights, 0, weights.length);
            System.arraycopy(other.market, 0, market, 0, market.length);
            System.arraycopy(other.menSkills, 0, menSkills, 0, menSkills.length);
            System.arraycopy(other.told, 0, told, 0, told.length);
            System.arraycopy(other.boxes, 0, boxes, 0, boxes.length);
            System.arraycopy(other.shortfalls, 0, shortfalls, 0, shortfalls.length);
            tree.copyFrom(other.tree);
            men = other.men;
            boxCount = other.boxCount;
            yieldCount = other.yieldCount;
            day = other.day;
            loss = other.loss;
        }

        int allCarcasses() {
            return many[0] + many[1] + many[2];
        }

        /** The CLASS of the i-th carcass, those of CLASS 0 being first. */
        int classOf(int carcass) {
            if (carcass < many[0]) {
                return 0;
            }
            return carcass < many[0] + many[1] ? 1 : 2;
        }

        int ordersAboveZero() {
            int above = 0;
            for (int part = 0; part < PARTS; part++) {
                if (market[ORDER * PARTS + part] > 0) {
                    above++;
                }
            }
            return above;
        }

        int weightOf(int part, int cls) {
            return weights[part * CLASSES + cls];
        }

        int wasteOf(int way, int cls) {
            int waste = weightOf(tree.wayParts[way], cls);
            for (int part = 0; part < PARTS; part++) {
                waste -= tree.pieces[way * PARTS + part] * weightOf(part, cls);
            }
            return waste;
        }

        boolean isOff(int way, int cls) {
            int waste = wasteOf(way, cls);
            return waste < 0 || waste * 100 > loss * weightOf(tree.wayParts[way], cls);
        }

        /** What so many of a PART bring. */
        int broughtBy(int part, int n) {
            int wanted = Math.min(n, market[ORDER * PARTS + part]);
            return wanted * market[PRICE * PARTS + part] + (n - wanted) * market[OVER * PARTS + part];
        }

        int lacking(int part, int n) {
            return Math.max(0, market[ORDER * PARTS + part] - n);
        }
    }

    /** A TREE as it was read: its clauses, what its WAYS give, and all its sums and tests as one row of steps. */
    private static final class Tree {
        private static final int PUSH = 0;
        private static final int LOOK = 1;
        private static final int ADD = 2;
        private static final int SUBTRACT = 3;
        private static final int MULTIPLY = 4;
        private static final int DIVIDE = 5;
        private static final int LESS = 6;
        private static final int MORE = 7;
        private static final int SAME = 8;
        private static final int NOT = 9;
        private static final int OR = 10;
        private static final int AND = 11;

        private final int[] kinds = new int[CLAUSES];
        private final int[] sumFrom = new int[CLAUSES];
        private final int[] sumTo = new int[CLAUSES];
        private final int[] testFrom = new int[CLAUSES];
        private final int[] testTo = new int[CLAUSES];
        private final int[] wayParts = new int[WAYS];
        private final int[] wayClauses = new int[WAYS];
        private final int[] pieces = new int[WAYS * PARTS];
        private final int[] steps = new int[TAPE];
        private final int[] operands = new int[TAPE];
        private int clauseCount = 0;
        private int wayCount = 0;
        private int stepCount = 0;
        private int serial = 0;

        void clear() {
            Arrays.fill(pieces, 0);
            clauseCount = 0;
            wayCount = 0;
            stepCount = 0;
        }

        void copyFrom(Tree other) {
            System.arraycopy(other.kinds, 0, kinds, 0, other.clauseCount);
            System.arraycopy(other.sumFrom, 0, sumFrom, 0, other.clauseCount);
            System.arraycopy(other.sumTo, 0, sumTo, 0, other.clauseCount);
            System.arraycopy(other.testFrom, 0, testFrom, 0, other.clauseCount);
            System.arraycopy(other.testTo, 0, testTo, 0, other.clauseCount);
            System.arraycopy(other.wayParts, 0, wayParts, 0, other.wayCount);
            System.arraycopy(other.wayClauses, 0, wayClauses, 0, other.wayCount);
            System.arraycopy(other.pieces, 0, pieces, 0, pieces.length);
            System.arraycopy(other.steps, 0, steps, 0, other.stepCount);
            System.arraycopy(other.operands, 0, operands, 0, other.stepCount);
            clauseCount = other.clauseCount;
            wayCount = other.wayCount;
            stepCount = other.stepCount;
            serial = other.serial;
        }

        /** Every step stands for a byte of the TAPE at least, so there is always room. */
        int addStep(int step, int operand) {
            int at = Math.min(stepCount, TAPE - 1);
            steps[at] = step;
            operands[at] = operand;
            stepCount = at + 1;
            return at;
        }

        int piecesInAll(int way) {
            int all = 0;
            for (int part = 0; part < PARTS; part++) {
                all += pieces[way * PARTS + part];
            }
            return all;
        }
    }

    /** Reads a TEXT into a TREE. Whatever fails, fails at the TOKEN that stands next: that is the FAULT. */
    private static final class Reader {
        private static final int END = 0;
        private static final int WORD = 1;
        private static final int NUMBER = 2;
        private static final int SIGN = 3;
        private static final int BRACKETS = 8;
        private static final int FACTORS = 50;
        private static final int MOST_NUMBER = 1000;
        private static final int TOO_GREAT = 100_000;

        private final int[] text;
        private Tree target;
        private int length = 0;
        private int kind = END;
        private int tokenFrom = 0;
        private int tokenTo = 0;
        private int number = 0;
        private int factors = 0;

        Reader(Tree into, int[] tape) {
            target = into;
            text = tape;
        }

        /** NONE, or where the FAULT is; what was read is then of no use. */
        int readTree(int tapeLength, Tree into) {
            length = Math.min(tapeLength, text.length);
            target = into;
            target.clear();
            tokenTo = 0;
            factors = 0;
            goOn();
            for (int clause = 0; clause < CLAUSES; clause++) {
                if (!readClause(clause)) {
                    return tokenFrom;
                }
                target.clauseCount = clause + 1;
                if (kind == END) {
                    return NONE;
                }
                if (!isSign(';')) {
                    return tokenFrom;
                }
                goOn();
            }
            return tokenFrom;
        }

        private boolean readClause(int clause) {
            target.sumFrom[clause] = target.stepCount;
            boolean good;
            if (isWord("cut")) {
                target.kinds[clause] = CUT;
                good = readCut(clause);
            } else if (isWord("minutes")) {
                target.kinds[clause] = MINUTES;
                goOn();
                good = readSum(0);
            } else if (isWord("skill")) {
                target.kinds[clause] = SKILL;
                goOn();
                good = readSum(0);
            } else {
                good = false;
            }
            target.sumTo[clause] = target.stepCount;
            target.testFrom[clause] = target.stepCount;
            if (good && isWord("if")) {
                goOn();
                good = readTest(0);
            }
            target.testTo[clause] = target.stepCount;
            return good;
        }

        private boolean readCut(int clause) {
            int way = target.wayCount;
            if (way >= WAYS) {
                return false;
            }
            goOn();
            if (!isNumber(0, PARTS - 1)) {
                return false;
            }
            target.wayParts[way] = number;
            target.wayClauses[way] = clause;
            goOn();
            if (!isWord("to") || !readPieces(way)) {
                return false;
            }
            for (int i = 0; i < TAPE && isWord("and"); i++) {
                if (!readPieces(way)) {
                    return false;
                }
            }
            target.wayCount = way + 1;
            return true;
        }

        /** From the "to" or "and" ahead of the PIECES on. */
        private boolean readPieces(int way) {
            goOn();
            if (!isNumber(1, 9)) {
                return false;
            }
            int many = number;
            goOn();
            if (!isNumber(target.wayParts[way] + 1, PARTS - 1)) {
                return false;
            }
            target.pieces[way * PARTS + number] += many;
            goOn();
            return true;
        }

        private boolean readTest(int brackets) {
            if (!readBoth(brackets)) {
                return false;
            }
            for (int i = 0; i < TAPE && isWord("or"); i++) {
                int skip = target.addStep(Tree.OR, 0);
                goOn();
                if (!readBoth(brackets)) {
                    return false;
                }
                target.operands[skip] = target.stepCount;
            }
            return true;
        }

        private boolean readBoth(int brackets) {
            if (!readPlain(brackets)) {
                return false;
            }
            for (int i = 0; i < TAPE && isWord("and"); i++) {
                int skip = target.addStep(Tree.AND, 0);
                goOn();
                if (!readPlain(brackets)) {
                    return false;
                }
                target.operands[skip] = target.stepCount;
            }
            return true;
        }

        /** A TEXT may hold more than a hundred "not" in a row: a loop, so that calls do not stand open for each. */
        private boolean readPlain(int brackets) {
            boolean turned = false;
            for (int i = 0; i < TAPE && isWord("not"); i++) {
                turned = !turned;
                goOn();
            }
            boolean good = isSign('(') ? readInner(brackets) : readComparison(brackets);
            if (good && turned) {
                target.addStep(Tree.NOT, 0);
            }
            return good;
        }

        private boolean readInner(int brackets) {
            if (brackets >= BRACKETS) {
                return false;
            }
            goOn();
            if (!readTest(brackets + 1) || !isSign(')')) {
                return false;
            }
            goOn();
            return true;
        }

        private boolean readComparison(int brackets) {
            if (!readSum(brackets)) {
                return false;
            }
            int step;
            if (isSign('<')) {
                step = Tree.LESS;
            } else if (isSign('>')) {
                step = Tree.MORE;
            } else if (isSign('=')) {
                step = Tree.SAME;
            } else {
                return false;
            }
            goOn();
            if (!readSum(brackets)) {
                return false;
            }
            target.addStep(step, 0);
            return true;
        }

        private boolean readSum(int brackets) {
            if (!readTerm(brackets)) {
                return false;
            }
            for (int i = 0; i < TAPE && (isSign('+') || isSign('-')); i++) {
                int step = isSign('+') ? Tree.ADD : Tree.SUBTRACT;
                goOn();
                if (!readTerm(brackets)) {
                    return false;
                }
                target.addStep(step, 0);
            }
            return true;
        }

        private boolean readTerm(int brackets) {
            if (!readFactor(brackets)) {
                return false;
            }
            for (int i = 0; i < TAPE && (isSign('*') || isSign('/')); i++) {
                int step = isSign('*') ? Tree.MULTIPLY : Tree.DIVIDE;
                goOn();
                if (!readFactor(brackets)) {
                    return false;
                }
                target.addStep(step, 0);
            }
            return true;
        }

        private boolean readFactor(int brackets) {
            if (isSign('[')) {
                return readInnerSum(brackets);
            }
            if (factors >= FACTORS) {
                return false;
            }
            if (isNumber(0, MOST_NUMBER)) {
                target.addStep(Tree.PUSH, number);
            } else if (isWord("class")) {
                target.addStep(Tree.LOOK, Asker.CLASS_FACT);
            } else if (isWord("part")) {
                target.addStep(Tree.LOOK, Asker.PART_FACT);
            } else if (isWord("way")) {
                target.addStep(Tree.LOOK, Asker.WAY_FACT);
            } else if (isWord("day")) {
                target.addStep(Tree.LOOK, Asker.DAY_FACT);
            } else if (isWord("weight")) {
                target.addStep(Tree.LOOK, Asker.WEIGHT_FACT);
            } else {
                return false;
            }
            factors++;
            goOn();
            return true;
        }

        private boolean readInnerSum(int brackets) {
            if (brackets >= BRACKETS) {
                return false;
            }
            goOn();
            if (!readSum(brackets + 1) || !isSign(']')) {
                return false;
            }
            goOn();
            return true;
        }

        private boolean isWord(String word) {
            if (kind != WORD || tokenTo - tokenFrom != word.length()) {
                return false;
            }
            for (int i = 0; i < word.length(); i++) {
                if (text[tokenFrom + i] != word.charAt(i)) {
                    return false;
                }
            }
            return true;
        }

        private boolean isSign(char sign) {
            return kind == SIGN && text[tokenFrom] == sign;
        }

        private boolean isNumber(int least, int most) {
            return kind == NUMBER && number >= least && number <= most;
        }

        /** Goes on to the next TOKEN. */
        private void goOn() {
            int at = tokenTo;
            while (at < length && text[at] == ' ') {
                at++;
            }
            tokenFrom = at;
            if (at >= length) {
                kind = END;
            } else if (isLetter(text[at])) {
                kind = WORD;
                while (at < length && isLetter(text[at])) {
                    at++;
                }
            } else if (isDigit(text[at])) {
                kind = NUMBER;
                number = 0;
                while (at < length && isDigit(text[at])) {
                    number = Math.min(TOO_GREAT, number * 10 + text[at] - '0');
                    at++;
                }
            } else {
                kind = SIGN;
                at++;
            }
            tokenTo = at;
        }

        private static boolean isLetter(int sign) {
            return sign >= 'a' && sign <= 'z';
        }

        private static boolean isDigit(int sign) {
            return sign >= '0' && sign <= '9';
        }
    }

    /** Asks the TREE's clauses of a WAY for a CLASS. */
    private static final class Asker {
        private static final int CLASS_FACT = 0;
        private static final int PART_FACT = 1;
        private static final int WAY_FACT = 2;
        private static final int DAY_FACT = 3;
        private static final int WEIGHT_FACT = 4;
        private static final int FACTS = 5;
        private static final int STACK = 64;
        private static final long FARTHEST = 1_000_000_000L;

        private final Hall hall;
        private final int[] facts = new int[FACTS];
        private final int[] stack = new int[STACK];
        private boolean broken = false;
        private int sumTold = 0;

        Asker(Hall asked) {
            hall = asked;
        }

        boolean canBeGone(int way, int cls) {
            face(way, cls);
            return holds(hall.tree.wayClauses[way]);
        }

        /** MINUTES or SKILL of a WAY for a CLASS. */
        int latestOf(int kind, int way, int cls) {
            int most = kind == MINUTES ? 60 : SKILLS - 1;
            face(way, cls);
            for (int clause = hall.tree.clauseCount - 1; clause >= 0; clause--) {
                if (hall.tree.kinds[clause] == kind && holds(clause)) {
                    return Math.max(0, Math.min(most, sumTold));
                }
            }
            return kind == MINUTES ? 1 : 0;
        }

        private void face(int way, int cls) {
            int part = hall.tree.wayParts[way];
            facts[CLASS_FACT] = cls;
            facts[PART_FACT] = part;
            facts[WAY_FACT] = way;
            facts[DAY_FACT] = hall.day;
            facts[WEIGHT_FACT] = hall.weightOf(part, cls);
        }

        private boolean holds(int clause) {
            Tree tree = hall.tree;
            broken = false;
            if (tree.testTo[clause] > tree.testFrom[clause]) {
                int so = reckon(tree, tree.testFrom[clause], tree.testTo[clause]);
                if (broken || so == 0) {
                    return false;
                }
            }
            sumTold = reckon(tree, tree.sumFrom[clause], tree.sumTo[clause]);
            return !broken;
        }

        /** Skips go forwards alone, so that every step is taken once at most. */
        private int reckon(Tree tree, int from, int to) {
            int top = 0;
            int at = from;
            for (int taken = from; taken < to && at < to && !broken; taken++) {
                int step = tree.steps[at];
                int operand = tree.operands[at];
                at++;
                if (step == Tree.PUSH || step == Tree.LOOK) {
                    stack[Math.min(top, STACK - 1)] = step == Tree.PUSH ? operand : facts[operand];
                    top = Math.min(top + 1, STACK);
                } else if (step == Tree.NOT && top > 0) {
                    stack[top - 1] = 1 - stack[top - 1];
                } else if ((step == Tree.OR || step == Tree.AND) && top > 0) {
                    if (stack[top - 1] == (step == Tree.OR ? 1 : 0)) {
                        at = Math.max(at, operand);
                    } else {
                        top--;
                    }
                } else if (top > 1) {
                    top--;
                    long exact = joined(step, stack[top - 1], stack[top]);
                    broken = exact > FARTHEST || exact < -FARTHEST;
                    stack[top - 1] = (int) exact;
                }
            }
            return top > 0 ? stack[top - 1] : 0;
        }

        private static long joined(int step, long a, long b) {
            switch (step) {
                case Tree.ADD:
                    return a + b;
                case Tree.SUBTRACT:
                    return a - b;
                case Tree.MULTIPLY:
                    return a * b;
                case Tree.DIVIDE:
                    return b == 0 ? FARTHEST + 1 : a / b;
                case Tree.LESS:
                    return a < b ? 1 : 0;
                case Tree.MORE:
                    return a > b ? 1 : 0;
                default:
                    return a == b ? 1 : 0;
            }
        }
    }

    /** The CUTTINGS of one CLASS, for one TREE and one set of WAYS that can be gone. */
    private static final class Cuttings {
        private final int[] choices = new int[CUTTINGS * PARTS];
        private final int[] lefts = new int[CUTTINGS * PARTS];
        private final int[] chosen = new int[PARTS];
        private final int[] coming = new int[PARTS];
        private int many = 0;
        private int serial = NONE;
        private int open = 0;

        /** Whether they may be others than before. */
        boolean renew(Tree tree, int openWays) {
            if (tree.serial == serial && openWays == open) {
                return false;
            }
            serial = tree.serial;
            open = openWays;
            many = 0;
            Arrays.fill(coming, 0);
            coming[0] = 1;
            choose(this, tree, 0, 1);
            return true;
        }

        /** Whatever is cut gives one piece at least, so inAll never falls again: too many now is too many at the end. */
        private static void choose(Cuttings row, Tree tree, int part, int inAll) {
            if (row.many > CUTTINGS) {
                return;
            }
            if (part >= PARTS) {
                row.keep();
                return;
            }
            int here = row.coming[part];
            row.chosen[part] = NONE;
            choose(row, tree, part + 1, inAll);
            for (int way = 0; way < tree.wayCount && here > 0; way++) {
                int then = inAll + here * (tree.piecesInAll(way) - 1);
                if (tree.wayParts[way] == part && (row.open >> way & 1) == 1 && then <= MOST_LEFT) {
                    row.chosen[part] = way;
                    row.bring(tree, way, here);
                    choose(row, tree, part + 1, then);
                    row.bring(tree, way, -here);
                }
            }
        }

        private void bring(Tree tree, int way, int times) {
            for (int part = 0; part < PARTS; part++) {
                coming[part] += times * tree.pieces[way * PARTS + part];
            }
        }

        private void keep() {
            if (many < CUTTINGS) {
                for (int part = 0; part < PARTS; part++) {
                    choices[many * PARTS + part] = chosen[part];
                    lefts[many * PARTS + part] = chosen[part] == NONE ? coming[part] : 0;
                }
            }
            many++;
        }
    }

    /**
     * What the CUTTINGS offer to the ORDERS. A PLAN brings OVER for every PART and beyond that PRICE less OVER for
     * each that an ORDER wants; for this only how much of each ORDER is filled needs to be known. A filling is held
     * as five fields of five bits, each standing at 15 when its ORDER is full, so that all are added and capped at
     * once. CUTTINGS that fill alike are one group, of which only those that bring most matter.
     */
    private static final class Offers {
        private static final int FIELD = 5;
        private static final int FULL = 15;
        private static final int FULL_ALL = 0xF7BDEF;
        private static final int SPILL_ALL = 0x1084210;
        private static final int SINGLE = 1 << FIELD;
        private static final int PAIR = 1 << 2 * FIELD;
        /** Scores are sixteenfold: below there is room to count carcasses that keep their CUTTING. */
        private static final int SCALE = 16;

        private final int[] fills = new int[CLASSES * CUTTINGS];
        private final int[] gains = new int[CLASSES * CUTTINGS];
        private final int[] alike = new int[CLASSES * CUTTINGS];
        private final int[] lowest = new int[CLASSES * CUTTINGS];
        private final int[] groupOf = new int[CLASSES * CUTTINGS];
        private final int[] groups = new int[CLASSES];
        /** By CLASS what one carcass more can bring at most. */
        private final int[] tops = new int[CLASSES];
        private final int[] rated = new int[ORDERS];
        private final int[] caps = new int[ORDERS];
        private final int[] strides = new int[ORDERS];
        private final int[] bonuses = new int[ORDERS];
        private final int[] lowPlaces = new int[PAIR];
        private final int[] midPlaces = new int[PAIR];
        private final int[] topPlaces = new int[SINGLE];
        private final int[] lowBonuses = new int[PAIR];
        private final int[] midBonuses = new int[PAIR];
        private final int[] topBonuses = new int[SINGLE];
        private int ratedCount = 0;
        private int empty = 0;
        private int places = 1;

        static int join(int filling, int fill) {
            int sum = filling + fill;
            int spilt = sum & SPILL_ALL;
            return (sum | spilt - (spilt >>> 4)) & FULL_ALL;
        }

        int placeOf(int filling) {
            return lowPlaces[filling & PAIR - 1] + midPlaces[filling >>> 2 * FIELD & PAIR - 1]
                    + topPlaces[filling >>> 4 * FIELD & SINGLE - 1];
        }

        int bonusOf(int filling) {
            return lowBonuses[filling & PAIR - 1] + midBonuses[filling >>> 2 * FIELD & PAIR - 1]
                    + topBonuses[filling >>> 4 * FIELD & SINGLE - 1];
        }

        void load(Hall hall, Cuttings[] cuttings) {
            rate(hall);
            spread(0, 1, lowPlaces, lowBonuses);
            spread(2, 3, midPlaces, midBonuses);
            spread(4, NONE, topPlaces, topBonuses);
            for (int cls = 0; cls < CLASSES; cls++) {
                groups[cls] = 0;
                tops[cls] = 0;
                if (cuttings[cls].many <= CUTTINGS) {
                    group(hall, cls, cuttings[cls]);
                }
            }
        }

        /** An ORDER whose PRICE is OVER changes nothing, and needs no field. */
        private void rate(Hall hall) {
            ratedCount = 0;
            empty = 0;
            places = 1;
            Arrays.fill(caps, 0);
            for (int part = 0; part < PARTS && ratedCount < ORDERS; part++) {
                int order = hall.market[ORDER * PARTS + part];
                int bonus = hall.market[PRICE * PARTS + part] - hall.market[OVER * PARTS + part];
                if (order > 0 && bonus != 0) {
                    rated[ratedCount] = part;
                    caps[ratedCount] = order;
                    strides[ratedCount] = places;
                    bonuses[ratedCount] = bonus * SCALE;
                    places *= order + 1;
                    ratedCount++;
                }
            }
            for (int field = 0; field < ORDERS; field++) {
                empty |= FULL - caps[field] << FIELD * field;
            }
        }

        /** Places and bonuses of all fillings of two neighbouring fields (or of one, if there is no second). */
        private void spread(int first, int second, int[] toPlaces, int[] toBonuses) {
            int secondCap = second == NONE ? 0 : caps[second];
            int secondFull = second == NONE ? 0 : FULL;
            for (int b = 0; b <= secondCap; b++) {
                int place = b == 0 ? 0 : b * strides[second];
                int bonus = b == 0 ? 0 : b * bonuses[second];
                int at = secondFull - secondCap + b << FIELD;
                for (int a = 0; a <= caps[first]; a++) {
                    toPlaces[at + FULL - caps[first] + a] = a == 0 ? place : place + a * strides[first];
                    toBonuses[at + FULL - caps[first] + a] = a == 0 ? bonus : bonus + a * bonuses[first];
                }
            }
        }

        private void group(Hall hall, int cls, Cuttings cuttings) {
            int base = cls * CUTTINGS;
            for (int cutting = 0; cutting < cuttings.many; cutting++) {
                int fill = fillOf(cuttings, cutting);
                int gain = gainOf(hall, cuttings, cutting);
                tops[cls] = Math.max(tops[cls], gain + mostBonus(fill));
                int at = base;
                int behind = base + groups[cls];
                while (at < behind && fills[at] != fill) {
                    at++;
                }
                groupOf[base + cutting] = at;
                if (at == behind) {
                    groups[cls]++;
                    fills[at] = fill;
                }
                if (at == behind || gain > gains[at]) {
                    gains[at] = gain;
                    alike[at] = 1;
                    lowest[at] = cutting;
                } else if (gain == gains[at]) {
                    alike[at]++;
                }
            }
        }

        private int fillOf(Cuttings cuttings, int cutting) {
            int fill = 0;
            for (int field = 0; field < ratedCount; field++) {
                int n = cuttings.lefts[cutting * PARTS + rated[field]];
                fill |= Math.min(n, caps[field]) << FIELD * field;
            }
            return fill;
        }

        private int mostBonus(int fill) {
            int most = 0;
            for (int field = 0; field < ratedCount; field++) {
                most += Math.max(0, bonuses[field]) * (fill >>> FIELD * field & FULL);
            }
            return most;
        }

        private static int gainOf(Hall hall, Cuttings cuttings, int cutting) {
            int gain = 0;
            for (int part = 0; part < PARTS; part++) {
                gain += cuttings.lefts[cutting * PARTS + part] * hall.market[OVER * PARTS + part];
            }
            return gain * SCALE;
        }
    }

    /**
     * Fillings that can be reached carcass by carcass, from the last carcass on: layer k has those of k carcasses,
     * each with the most that is gained on the way to it and with how many ways there are to gain that.
     */
    private static final class Layers {
        private static final int NOBODY = NONE;

        private final Offers offers;
        private final int[] starts = new int[CARCASSES + 2];
        private final int[] followed = new int[CARCASSES];
        private int depth = 0;
        private int[] fillings = new int[256];
        private int[] scores = new int[256];
        private int[] counts = new int[256];
        private int[] slots = new int[1];
        private int best = 0;
        private int bestCount = 0;

        Layers(Offers offered) {
            offers = offered;
        }

        /** Must be called whenever the offers were loaded anew. */
        void clear() {
            depth = 0;
            starts[0] = 0;
            starts[1] = 1;
            fillings[0] = offers.empty;
            scores[0] = 0;
            counts[0] = 1;
            if (slots.length < offers.places) {
                slots = new int[Math.max(offers.places, 2 * slots.length)];
            }
        }

        /** Layers for the CLASSES in that order; what is already there of them is not made again. */
        void follow(int[] classes, int n) {
            int common = 0;
            while (common < n && common < depth && followed[common] == classes[common]) {
                common++;
            }
            depth = common;
            for (int i = common; i < n && i < CARCASSES; i++) {
                step(classes[i], NOBODY);
            }
        }

        /** One carcass more; a favoured group scores one more than it gains. */
        void step(int cls, int favoured) {
            if (depth >= CARCASSES) {
                return;
            }
            int behind = starts[depth + 1];
            int end = behind;
            for (int from = starts[depth]; from < behind; from++) {
                if (fillings.length - end < CUTTINGS) {
                    grow();
                }
                end = extend(from, cls, favoured, end);
            }
            for (int at = behind; at < end; at++) {
                slots[offers.placeOf(fillings[at])] = 0;
            }
            followed[depth] = cls;
            depth++;
            starts[depth + 1] = end;
        }

        /** What one filling becomes by each group; answers where the layer ends then. There must be room. */
        private int extend(int from, int cls, int favoured, int layerEnd) {
            int[] fills = offers.fills;
            int[] gains = offers.gains;
            int before = fillings[from];
            int scored = scores[from];
            int end = layerEnd;
            int behindGroups = cls * CUTTINGS + offers.groups[cls];
            for (int group = cls * CUTTINGS; group < behindGroups; group++) {
                int filling = Offers.join(before, fills[group]);
                int score = scored + gains[group] + (group == favoured ? 1 : 0);
                int place = offers.placeOf(filling);
                int at = slots[place] - 1;
                if (at < 0) {
                    at = end;
                    end++;
                    slots[place] = end;
                    fillings[at] = filling;
                    scores[at] = score;
                    counts[at] = together(0, counts[from], offers.alike[group]);
                } else if (score > scores[at]) {
                    scores[at] = score;
                    counts[at] = together(0, counts[from], offers.alike[group]);
                } else if (score == scores[at]) {
                    counts[at] = together(counts[at], counts[from], offers.alike[group]);
                }
            }
            return end;
        }

        /** The last carcass of all needs no layer: what its groups bring is all that is asked. */
        void finish(int cls, int favoured) {
            int firstGroup = cls * CUTTINGS;
            int behindGroups = firstGroup + offers.groups[cls];
            int most = offers.tops[cls] + 1;
            best = NONE;
            bestCount = 0;
            for (int from = starts[depth]; from < starts[depth + 1]; from++) {
                int before = fillings[from];
                if (scores[from] + offers.bonusOf(before) + most < best) {
                    continue;
                }
                for (int group = firstGroup; group < behindGroups; group++) {
                    int score = scores[from] + offers.gains[group] + (group == favoured ? 1 : 0)
                            + offers.bonusOf(Offers.join(before, offers.fills[group]));
                    if (score > best) {
                        best = score;
                        bestCount = together(0, counts[from], offers.alike[group]);
                    } else if (score == best) {
                        bestCount = together(bestCount, counts[from], offers.alike[group]);
                    }
                }
            }
        }

        /** Whether a filling of that layer, joined with the one that the carcasses ahead gave, brings just this. */
        boolean reaches(int layer, int ahead, int due) {
            int fill = ahead - offers.empty;
            for (int at = starts[layer]; at < starts[layer + 1]; at++) {
                if (scores[at] + offers.bonusOf(Offers.join(fillings[at], fill)) == due) {
                    return true;
                }
            }
            return false;
        }

        private static int together(int before, int ways, int times) {
            long all = before + (long) ways * times;
            return all < MOST_COUNTED ? (int) all : MOST_COUNTED;
        }

        private void grow() {
            int room = fillings.length * 2;
            fillings = Arrays.copyOf(fillings, room);
            scores = Arrays.copyOf(scores, room);
            counts = Arrays.copyOf(counts, room);
        }
    }

    /** CUTTINGS, BEST, the FIRST and what hangs on them, each kept until something makes it stale. */
    private static final class Planner {
        private static final int SIDE = CARCASSES + 1;

        private final Hall hall;
        private final Asker asker;
        private final Cuttings[] cuttings = new Cuttings[CLASSES];
        private final Offers offers = new Offers();
        private final Layers layers = new Layers(offers);
        private final int[] bests = new int[SIDE * SIDE * SIDE];
        private final int[] bestCounts = new int[SIDE * SIDE * SIDE];
        private final int[] bestEpochs = new int[SIDE * SIDE * SIDE];
        private final int[] classRow = new int[CARCASSES];
        private final int[] first = new int[CARCASSES];
        private final int[] changes = new int[CLASSES];
        private final int[] othersBring = new int[CLASSES];
        private int epoch = 1;
        private boolean waysStale = true;
        private boolean offersStale = true;
        private boolean firstStale = true;

        Planner(Hall planned, Asker asked) {
            hall = planned;
            asker = asked;
            for (int cls = 0; cls < CLASSES; cls++) {
                cuttings[cls] = new Cuttings();
            }
        }

        void forgetWays() {
            waysStale = true;
        }

        /** What was reckoned in an earlier epoch no longer counts. */
        void forgetPlans() {
            offersStale = true;
            firstStale = true;
            epoch++;
        }

        void forgetFirst() {
            firstStale = true;
        }

        /** To be called ahead of all that asks for CUTTINGS or PLANS. */
        void renewCuttings() {
            if (!waysStale) {
                return;
            }
            boolean renewed = false;
            for (int cls = 0; cls < CLASSES; cls++) {
                int open = 0;
                for (int way = 0; way < hall.tree.wayCount; way++) {
                    if (asker.canBeGone(way, cls)) {
                        open |= 1 << way;
                    }
                }
                renewed |= cuttings[cls].renew(hall.tree, open);
            }
            waysStale = false;
            if (renewed) {
                forgetPlans();
            }
        }

        /** To be asked where there is a PLAN, as are the calls below that look for the FIRST and beyond. */
        int bestNow() {
            return bests[spot(hall.many[0], hall.many[1], hall.many[2])];
        }

        int plansNow() {
            return bestCounts[spot(hall.many[0], hall.many[1], hall.many[2])];
        }

        /** As bestFor, with a carcass of a CLASS more or fewer. */
        int bestWith(int cls, int more) {
            return bestFor(hall.many[0] + (cls == 0 ? more : 0), hall.many[1] + (cls == 1 ? more : 0),
                    hall.many[2] + (cls == 2 ? more : 0));
        }

        /** What BEST brings with so many carcasses of the CLASSES; NONE if there is no PLAN. */
        int bestFor(int a, int b, int c) {
            if (!within(a, 0, CARCASSES) || !within(b, 0, CARCASSES) || !within(c, 0, CARCASSES)
                    || a + b + c > CARCASSES || !isPlanned(a, b, c)) {
                return NONE;
            }
            int spot = spot(a, b, c);
            if (bestEpochs[spot] != epoch) {
                loadOffers();
                solve(a, b, c);
                bestEpochs[spot] = epoch;
                bests[spot] = layers.best / Offers.SCALE;
                bestCounts[spot] = layers.bestCount;
            }
            return bests[spot];
        }

        private static int spot(int a, int b, int c) {
            return (a * SIDE + b) * SIDE + c;
        }

        /** A CLASS with more CUTTINGS than can be told stands in the way only where one of its carcasses is there. */
        private boolean isPlanned(int a, int b, int c) {
            return (a == 0 || cuttings[0].many <= CUTTINGS)
                    && (b == 0 || cuttings[1].many <= CUTTINGS)
                    && (c == 0 || cuttings[2].many <= CUTTINGS);
        }

        private void loadOffers() {
            if (offersStale) {
                offers.load(hall, cuttings);
                layers.clear();
                offersStale = false;
            }
        }

        private void solve(int a, int b, int c) {
            int all = layOut(a, b, c);
            if (all == 0) {
                layers.best = 0;
                layers.bestCount = 1;
                return;
            }
            layers.follow(classRow, all - 1);
            layers.finish(classRow[all - 1], Layers.NOBODY);
        }

        /** The CLASSES of the carcasses, the last ones ahead: so the FIRST can be found from the first one on. */
        private int layOut(int a, int b, int c) {
            int all = Math.min(a + b + c, CARCASSES);
            for (int i = 0; i < all; i++) {
                classRow[i] = i < c ? 2 : i < c + b ? 1 : 0;
            }
            return all;
        }

        void findFirst() {
            if (!firstStale) {
                return;
            }
            int due = bestNow() * Offers.SCALE;
            loadOffers();
            int all = layOut(hall.many[0], hall.many[1], hall.many[2]);
            layers.follow(classRow, all - 1);
            int ahead = offers.empty;
            for (int i = 0; i < all; i++) {
                int group = firstGroup(hall.classOf(i), all - 1 - i, ahead, due);
                first[i] = offers.lowest[group];
                ahead = Offers.join(ahead, offers.fills[group]);
                due -= offers.gains[group];
            }
            Arrays.fill(changes, NONE);
            firstStale = false;
        }

        /** The group whose lowest CUTTING is the lowest with which BEST can still be reached. */
        private int firstGroup(int cls, int layer, int ahead, int due) {
            int base = cls * CUTTINGS;
            for (int cutting = 0; cutting < cuttings[cls].many && cutting < CUTTINGS; cutting++) {
                int group = offers.groupOf[base + cutting];
                if (offers.lowest[group] == cutting
                        && layers.reaches(layer, Offers.join(ahead, offers.fills[group]), due - offers.gains[group])) {
                    return group;
                }
            }
            return base;
        }

        int manyInFirst(int part) {
            int many = 0;
            int all = hall.allCarcasses();
            for (int i = 0; i < all; i++) {
                many += cuttings[hall.classOf(i)].lefts[first[i] * PARTS + part];
            }
            return many;
        }

        int worthOf(int part) {
            int at = ORDER * PARTS + part;
            int order = hall.market[at];
            int now = bestNow();
            if (order >= MOST_ORDERED || order == 0 && hall.ordersAboveZero() >= ORDERS) {
                return NONE;
            }
            if (hall.market[PRICE * PARTS + part] == hall.market[OVER * PARTS + part] || order >= mostOf(part)) {
                return 0;
            }
            hall.market[at] = order + 1;
            offersStale = true;
            loadOffers();
            solve(hall.many[0], hall.many[1], hall.many[2]);
            hall.market[at] = order;
            offersStale = true;
            return layers.best / Offers.SCALE - now;
        }

        /** How many of a PART there can be at all: an ORDER of as many has no WORTH. */
        private int mostOf(int part) {
            int most = 0;
            for (int cls = 0; cls < CLASSES; cls++) {
                int mostOfOne = 0;
                for (int i = 0; i < cuttings[cls].many && i < CUTTINGS; i++) {
                    mostOfOne = Math.max(mostOfOne, cuttings[cls].lefts[i * PARTS + part]);
                }
                most += hall.many[cls] * mostOfOne;
            }
            return most;
        }

        /** As for BEST, but who keeps his CUTTING scores one more: too little to weigh against what is brought. */
        void findChange(int cls) {
            if (changes[cls] != NONE) {
                return;
            }
            int all = hall.allCarcasses();
            int gone = (cls == 0 ? hall.many[0] : cls == 1 ? hall.many[0] + hall.many[1] : all) - 1;
            int front = gone == 0 ? 1 : 0;
            changes[cls] = 0;
            othersBring[cls] = 0;
            if (all < 2) {
                return;
            }
            loadOffers();
            layers.clear();
            for (int i = all - 1; i > front; i--) {
                if (i != gone) {
                    layers.step(hall.classOf(i), groupInFirst(i));
                }
            }
            layers.finish(hall.classOf(front), groupInFirst(front));
            layers.clear();
            othersBring[cls] = layers.best / Offers.SCALE;
            changes[cls] = all - 1 - layers.best % Offers.SCALE;
        }

        private int groupInFirst(int carcass) {
            return offers.groupOf[hall.classOf(carcass) * CUTTINGS + first[carcass]];
        }

        int toldBrings() {
            int brings = 0;
            for (int part = 0; part < PARTS; part++) {
                brings += hall.broughtBy(part, manyTold(part));
            }
            return brings;
        }

        int toldLacks() {
            int lacks = 0;
            for (int part = 0; part < PARTS; part++) {
                lacks += hall.lacking(part, manyTold(part));
            }
            return lacks;
        }

        int toldOtherwise() {
            int otherwise = 0;
            int all = hall.allCarcasses();
            for (int i = 0; i < all; i++) {
                if (toldCutting(i) != first[i]) {
                    otherwise++;
                }
            }
            return otherwise;
        }

        private int manyTold(int part) {
            int many = 0;
            int all = hall.allCarcasses();
            for (int i = 0; i < all; i++) {
                many += cuttings[hall.classOf(i)].lefts[toldCutting(i) * PARTS + part];
            }
            return many;
        }

        private int toldCutting(int carcass) {
            int told = hall.told[carcass];
            return told < cuttings[hall.classOf(carcass)].many ? told : 0;
        }
    }

    /** TASKS of the FIRST, SHARED among the MEN. */
    private static final class Crew {
        private static final int ALL_TASKS = 16;

        private final Hall hall;
        private final Asker asker;
        private final Planner planner;
        private final int[] minutes = new int[WAYS];
        private final int[] skillNeeded = new int[WAYS];
        private final int[] menOfWays = new int[WAYS];
        private final int[] coming = new int[PARTS];
        private final int[] tasks = new int[ALL_TASKS];
        private final int[] tried = new int[ALL_TASKS];
        private final int[] loads = new int[MEN];
        private int taskCount = 0;
        private int minutesInAll = 0;
        private int longest = NONE;
        private int limit = 0;
        private int enough = 0;
        private boolean tasksStale = true;
        private boolean shareStale = true;

        Crew(Hall worked, Asker asked, Planner planned) {
            hall = worked;
            asker = asked;
            planner = planned;
        }

        void forget() {
            tasksStale = true;
            shareStale = true;
        }

        /** To be called where the FIRST is known. */
        void listTasks() {
            if (!tasksStale) {
                return;
            }
            tasksStale = false;
            Arrays.fill(minutes, 0);
            Arrays.fill(skillNeeded, NONE);
            int all = hall.allCarcasses();
            for (int i = 0; i < all; i++) {
                addCarcass(hall.classOf(i), planner.first[i]);
            }
            taskCount = 0;
            minutesInAll = 0;
            for (int way = 0; way < WAYS; way++) {
                if (skillNeeded[way] != NONE) {
                    tasks[taskCount] = way;
                    taskCount++;
                    minutesInAll += minutes[way];
                }
            }
        }

        /** Carcasses come with their CLASSES rising, so the SKILL is that of the lowest CLASS. */
        private void addCarcass(int cls, int cutting) {
            int[] choices = planner.cuttings[cls].choices;
            Arrays.fill(coming, 0);
            coming[0] = 1;
            for (int part = 0; part < PARTS; part++) {
                int way = choices[cutting * PARTS + part];
                if (way == NONE) {
                    continue;
                }
                minutes[way] += coming[part] * asker.latestOf(MINUTES, way, cls);
                if (skillNeeded[way] == NONE) {
                    skillNeeded[way] = asker.latestOf(SKILL, way, cls);
                }
                for (int piece = part + 1; piece < PARTS; piece++) {
                    coming[piece] += coming[part] * hall.tree.pieces[way * PARTS + piece];
                }
            }
        }

        /** First how short the longest can be, the greatest TASKS ahead; then the FIRST row of men that keeps to it. */
        void shareTasks() {
            if (!shareStale) {
                return;
            }
            shareStale = false;
            Arrays.fill(menOfWays, NONE);
            longest = NONE;
            if (taskCount > TASKS) {
                return;
            }
            Arrays.fill(loads, 0);
            limit = minutesInAll + 1;
            enough = hall.men == 0 ? 0 : (minutesInAll + hall.men - 1) / hall.men;
            sortTasks(true);
            tryTasks(this, 0, 0);
            if (limit > minutesInAll) {
                return;
            }
            longest = limit;
            limit = longest + 1;
            enough = longest;
            sortTasks(false);
            tryTasks(this, 0, 0);
        }

        private void sortTasks(boolean greatestFirst) {
            for (int i = 1; i < taskCount; i++) {
                int way = tasks[i];
                int at = i;
                while (at > 0 && isAhead(way, tasks[at - 1], greatestFirst)) {
                    tasks[at] = tasks[at - 1];
                    at--;
                }
                tasks[at] = way;
            }
        }

        private boolean isAhead(int way, int other, boolean greatestFirst) {
            return greatestFirst ? minutes[way] > minutes[other] : way < other;
        }

        /** Only a longest below the limit is looked for; none below what is enough. */
        private static void tryTasks(Crew crew, int at, int longestSoFar) {
            if (longestSoFar >= crew.limit || crew.limit <= crew.enough) {
                return;
            }
            if (at >= crew.taskCount) {
                crew.keepTried(longestSoFar);
                return;
            }
            int way = crew.tasks[at];
            for (int man = 0; man < crew.hall.men; man++) {
                if (crew.canDo(man, way) && !crew.isLikeEarlier(man)) {
                    crew.tried[at] = man;
                    crew.loads[man] += crew.minutes[way];
                    tryTasks(crew, at + 1, Math.max(longestSoFar, crew.loads[man]));
                    crew.loads[man] -= crew.minutes[way];
                }
            }
        }

        private void keepTried(int longestOfThem) {
            limit = longestOfThem;
            for (int i = 0; i < taskCount; i++) {
                menOfWays[tasks[i]] = tried[i];
            }
        }

        private boolean canDo(int man, int way) {
            return (hall.menSkills[man] >> skillNeeded[way] & 1) == 1;
        }

        /** What one of two alike men can't do better, the other can't either. */
        private boolean isLikeEarlier(int man) {
            for (int other = 0; other < man; other++) {
                if (hall.menSkills[other] == hall.menSkills[man] && loads[other] == loads[man]) {
                    return true;
                }
            }
            return false;
        }
    }

    /** MIXES of the BOXES that are there: sums of all choices from two halves of them, each choice of both joined. */
    private static final class Mixer {
        private static final int HALF = 8;

        private final Hall hall;
        private final int[] numbers = new int[BOXES];
        private final int[] lowWeights = new int[1 << HALF];
        private final int[] lowLeans = new int[1 << HALF];
        private final int[] highWeights = new int[1 << HALF];
        private final int[] highLeans = new int[1 << HALF];
        private int lowCount = 0;
        private int highCount = 0;
        private int askedFrom = NONE;
        private int askedTo = NONE;
        private int askedLean = NONE;
        private boolean stale = true;
        private int mixes = 0;
        private int givenAway = 0;
        private int boxBits = 0;

        Mixer(Hall mixed) {
            hall = mixed;
        }

        void forget() {
            stale = true;
        }

        void seek(int from, int to, int lean) {
            if (!stale && from == askedFrom && to == askedTo && lean == askedLean) {
                return;
            }
            if (stale) {
                listBoxes();
                stale = false;
            }
            askedFrom = from;
            askedTo = to;
            askedLean = lean;
            mixes = 0;
            givenAway = MOST_COUNTED;
            boxBits = 0;
            int allLow = lowWeights[(1 << lowCount) - 1];
            for (int high = 0; high < 1 << highCount; high++) {
                if (highWeights[high] <= to && highWeights[high] + allLow >= from) {
                    seekWith(high);
                }
            }
        }

        private void seekWith(int high) {
            int from = askedFrom - highWeights[high];
            int to = askedTo - highWeights[high];
            int beyond = highLeans[high] - highWeights[high] * askedLean;
            for (int low = 0; low < 1 << lowCount; low++) {
                int weight = lowWeights[low];
                if (weight < from || weight > to) {
                    continue;
                }
                int away = beyond + lowLeans[low] - weight * askedLean;
                if (away >= 0) {
                    mixes++;
                    if (away < givenAway) {
                        givenAway = away;
                        boxBits = bitsOf(high << lowCount | low);
                    }
                }
            }
        }

        private void listBoxes() {
            int there = 0;
            for (int box = 0; box < hall.boxCount; box++) {
                if (hall.boxes[box * BOX_FACTS + THERE] == 1) {
                    numbers[there] = box;
                    there++;
                }
            }
            lowCount = Math.min(there, HALF);
            highCount = there - lowCount;
            addUp(0, lowCount, lowWeights, lowLeans);
            addUp(lowCount, highCount, highWeights, highLeans);
        }

        private void addUp(int from, int n, int[] weights, int[] leans) {
            weights[0] = 0;
            leans[0] = 0;
            for (int i = 0; i < n; i++) {
                int at = numbers[from + i] * BOX_FACTS;
                int weight = hall.boxes[at + WEIGHT];
                int lean = weight * hall.boxes[at + LEAN];
                int bit = 1 << i;
                for (int without = 0; without < bit; without++) {
                    weights[bit + without] = weights[without] + weight;
                    leans[bit + without] = leans[without] + lean;
                }
            }
        }

        private int bitsOf(int choice) {
            int bits = 0;
            for (int i = 0; i < lowCount + highCount; i++) {
                bits |= (choice >> i & 1) << numbers[i];
            }
            return bits;
        }
    }

    /** BOXES that come, go out and are RECALLED. */
    private static final class Stock {
        private final Hall hall;
        private final int[] rounds = new int[BOXES];

        Stock(Hall stored) {
            hall = stored;
        }

        boolean canBe(int weight, int lean, int made, int table, int hour, int touched) {
            return within(weight, 1, 99) && within(lean, 0, 100) && within(made, 0, 99)
                    && within(table, 0, 3) && within(hour, 0, 23) && within(touched, 0, 255);
        }

        /** The number of the BOX, or NONE without room. */
        int store(int weight, int lean, int made, int table, int hour, int touched) {
            int box = hall.boxCount;
            if (box >= BOXES) {
                return NONE;
            }
            int at = box * BOX_FACTS;
            hall.boxes[at + WEIGHT] = weight;
            hall.boxes[at + LEAN] = lean;
            hall.boxes[at + MADE] = made;
            hall.boxes[at + TABLE] = table;
            hall.boxes[at + HOUR] = hour;
            hall.boxes[at + TOUCHED] = touched;
            hall.boxes[at + THERE] = 1;
            hall.boxCount = box + 1;
            return box;
        }

        int storeRow(int[] tape, int length) {
            int came = 0;
            for (int at = 0; at + 6 <= length; at += 6) {
                if (canBe(tape[at], tape[at + 1], tape[at + 2], tape[at + 3], tape[at + 4], tape[at + 5])
                        && store(tape[at], tape[at + 1], tape[at + 2], tape[at + 3], tape[at + 4], tape[at + 5])
                        != NONE) {
                    came++;
                }
            }
            return came;
        }

        int boxesThere() {
            int there = 0;
            for (int box = 0; box < hall.boxCount; box++) {
                there += hall.boxes[box * BOX_FACTS + THERE];
            }
            return there;
        }

        int takeOldest(int n, int day, int least, int most) {
            int bits = 0;
            for (int i = 0; i < n; i++) {
                int box = oldest(day - most, day - least);
                if (box == NONE) {
                    break;
                }
                hall.boxes[box * BOX_FACTS + THERE] = 0;
                bits |= 1 << box;
            }
            return bits;
        }

        /** The lowest of those made first among all that are there and were made on these DAYS. */
        private int oldest(int fromDay, int toDay) {
            int oldest = NONE;
            int oldestMade = toDay + 1;
            for (int box = 0; box < hall.boxCount; box++) {
                int made = hall.boxes[box * BOX_FACTS + MADE];
                if (hall.boxes[box * BOX_FACTS + THERE] == 1 && made >= fromDay && made < oldestMade) {
                    oldest = box;
                    oldestMade = made;
                }
            }
            return oldest;
        }

        int recalledBits(int carcasses) {
            findRounds(carcasses);
            int bits = 0;
            for (int box = 0; box < hall.boxCount; box++) {
                if (rounds[box] != NONE) {
                    bits |= 1 << box;
                }
            }
            return bits;
        }

        int recallRound(int carcasses, int box) {
            findRounds(carcasses);
            return rounds[box];
        }

        private void findRounds(int carcasses) {
            for (int box = 0; box < hall.boxCount; box++) {
                rounds[box] = (hall.boxes[box * BOX_FACTS + TOUCHED] & carcasses) != 0 ? 0 : NONE;
            }
            boolean more = true;
            for (int round = 1; round < BOXES && more; round++) {
                more = false;
                for (int box = 0; box < hall.boxCount; box++) {
                    if (rounds[box] == NONE && touchesRound(box, round - 1)) {
                        rounds[box] = round;
                        more = true;
                    }
                }
            }
        }

        /** A BOX that touches one of an earlier ROUND was RECALLED right behind that, so the last ROUND is enough. */
        private boolean touchesRound(int box, int round) {
            for (int other = 0; other < hall.boxCount; other++) {
                if (rounds[other] == round && touch(box * BOX_FACTS, other * BOX_FACTS)) {
                    return true;
                }
            }
            return false;
        }

        private boolean touch(int a, int b) {
            int[] boxes = hall.boxes;
            if ((boxes[a + TOUCHED] & boxes[b + TOUCHED]) != 0) {
                return true;
            }
            return boxes[a + MADE] == boxes[b + MADE] && boxes[a + TABLE] == boxes[b + TABLE]
                    && boxes[a + HOUR] == boxes[b + HOUR];
        }
    }
}
