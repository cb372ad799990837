import java.lang.management.ManagementFactory;

/** What a run makes: an object is small, and no call makes anything. */
public final class RoomTests {
    private static final String WIDE = "TB10B10B10P010091P010091P110091P110091P210091";
    private static int wrong = 0;
    private static long answers = 0;

    private static final com.sun.management.ThreadMXBean THREADS =
            (com.sun.management.ThreadMXBean) ManagementFactory.getThreadMXBean();
    private static final long THIS_THREAD = Thread.currentThread().getId();

    private static long made() {
        return THREADS.getThreadAllocatedBytes(THIS_THREAD);
    }

    private static void atMost(String what, long bytes, long most) {
        if (bytes > most) {
            wrong++;
            System.out.println(what + " made " + bytes + " bytes, at most " + most + " are due");
        }
    }

    public static void main(String[] args) {
        long least = Long.MAX_VALUE;
        long object = Long.MAX_VALUE;
        for (int round = 0; round < 5; round++) {
            made();
            long before = made();
            long start = made();
            BellSeconds x = new BellSeconds();
            long built = made();
            every(x);
            long end = made();
            long looking = start - before;
            object = Math.min(object, built - start - looking);
            least = Math.min(least, end - built - looking);
        }
        atMost("an object", object, 8000);
        atMost("all calls", least, 0);
        System.out.println(wrong == 0 ? "room is as due" : "too much room (" + answers + ")");
        if (wrong != 0) System.exit(1);
    }

    private static void every(BellSeconds x) {
        x.wipe();
        for (int i = 0; i < WIDE.length(); i++) answers += x.write(WIDE.charAt(i));
        answers += x.fault() + x.tower() + x.bell(0, 2) + x.bidder(0, 7) + x.rings(0) + x.clashes(0, 0);
        answers += x.let(0, 0) + x.let(1, 1) + x.move(1, 2) + x.revoke(0) + x.undo() + x.hands();
        answers += x.best(31) + x.bestOf(0) + x.beside() + x.price(0) + x.many() + x.room(2, 0) + x.judge(5, 2233445566L);
        answers += x.hear(0, 1) + x.fit(0) + x.likely(0, true) + x.unhear() + x.unwanted();
        answers += x.sealed(9, 9, 0) + x.seed(1) + x.day(20) + x.keep(0) + x.again(0) + x.count(5);
    }
}
