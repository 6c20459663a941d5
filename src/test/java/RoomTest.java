import java.lang.management.ManagementFactory;

/**
 * All calls of a run live in one room that is never swept: a house is small, and calls that only ask
 * take nothing at all.
 */
public final class RoomTest {
    private static final Check check = new Check("RoomTest");
    private static long sum = 0;

    public static void main(String[] args) {
        // Twice, so that the first time has loaded all that is loaded once.
        long[] taken = new long[2];
        for (int i = 0; i < 2; i++) {
            taken[0] = takenByHouse();
            taken[1] = takenByAsking();
        }
        System.out.println("RoomTest: a full house takes " + taken[0] + " bytes, asking " + taken[1]);
        check.holds("a full house takes less than 64 KiB", taken[0] < 65536);
        check.holds("asking takes nothing", taken[1] < 2048);
        check.holds("something was asked", sum != 0);
        check.finish();
    }

    private static long bytes() {
        return ((com.sun.management.ThreadMXBean) ManagementFactory.getThreadMXBean())
                .getThreadAllocatedBytes(Thread.currentThread().getId());
    }

    private static long takenByHouse() {
        long before = bytes();
        sum += fullHouse().count(0);
        return bytes() - before;
    }

    private static CaneHouse fullHouse() {
        CaneHouse x = new CaneHouse();
        for (int i = 0; i < 4; i++) {
            x.rod(1 + i, 9999);
            x.lay(i % 2, i / 2, i, 0);
        }
        x.bundle(2000);
        x.cased(4, 8);
        x.cased(4, 1);
        x.cased(4, 8);
        for (int i = 0; i < 16; i++) {
            x.cut(4, 10);
            x.order(9 + i);
        }
        return x;
    }

    private static long takenByAsking() {
        CaneHouse x = fullHouse();
        x.wish(8);
        x.slice(8);
        long before = bytes();
        for (int i = 0; i < 40; i++) {
            x.weigh(1, 2, 0);
            sum += x.next(0) + x.anew() + x.bowl(12, 8, 0) + x.bowl(12, 8, 1) + x.cracks(5, 1) + x.plan(3, 0);
            sum += x.sticks(50) + x.whose() + x.two(4, 5) + x.unlike(1) + x.made(4) + x.book(1, 1);
        }
        return bytes() - before;
    }
}
