import java.lang.management.ManagementFactory;
import java.util.Random;

/** What the dearest runs of calls make must stay far below the room that all calls of a run share. */
public final class RoomTest extends Dues {
    /** The room has 7.3 million fields and elements; here they are reckoned as four bytes each, headers and all. */
    private static final long MOST_BYTES = 4L * 2_500_000;

    private static final com.sun.management.ThreadMXBean THREADS =
            (com.sun.management.ThreadMXBean) ManagementFactory.getThreadMXBean();

    private static final String DEAR = "cut 0 to 1 5;cut 0 to 2 2 and 2 3 and 1 1 and 1 1;cut 0 to 4 4 and 2 3 and 1 3 and 1 8;"
            + "cut 0 to 2 1 and 1 3 and 1 1 and 2 6;cut 1 to 1 7;cut 0 to 1 2 and 2 4;cut 2 to 1 9 and 2 4 and 2 4 and 1 3 and 1 5;"
            + "cut 2 to 2 4 and 1 7;cut 2 to 1 7 and 2 6 and 1 5 and 4 3;cut 1 to 2 8 and 4 4 and 1 3 and 1 5 and 1 6;"
            + "cut 3 to 2 6 and 1 6 and 2 4 and 1 4;cut 1 to 2 4 and 2 6 and 1 3 and 1 9";

    private static void dearRun() {
        Random random = new Random(7);
        CutFloor x = new CutFloor();
        for (int i = 0; i < 8; i++) {
            feedText(x, DEAR);
            x.tree();
        }
        x.carcasses(0, 8);
        for (int part = 0; part < 10; part++) {
            x.put(part, 0, 50 + 7 * part);
            x.put(part, 1, part);
        }
        for (int part : new int[] {1, 2, 3, 5, 7}) x.put(part, 2, 8);
        for (int i = 0; i < 16; i++) x.box(1 + random.nextInt(99), random.nextInt(101), i, 0, 0, 1);
        for (int i = 0; i < 35; i++) {
            x.put(random.nextInt(10), 0, random.nextInt(999));
            x.best(0);
            x.best(1);
            x.plan(i % 8);
            x.change(0, 0);
            x.worth(i % 10);
            x.share(-1);
            x.week(i);
            x.mix(1, 1584, i, 0);
            x.image(i % 2);
            x.back(0);
        }
    }

    public static void main(String[] args) {
        long me = Thread.currentThread().getId();
        long before = THREADS.getThreadAllocatedBytes(me);
        dearRun();
        long made = THREADS.getThreadAllocatedBytes(me) - before;
        System.out.println("a dear run makes " + made / 1000 + " kB of " + MOST_BYTES / 1000);
        if (made > MOST_BYTES) {
            System.out.println("too much");
            System.exit(1);
        }
    }
}
