import java.util.ArrayList;
import java.util.List;

/** Promises 33 to 38 at their edges: a test for each sentence of the document that names one. */
public final class BadRodEdgesTest {
    private static final int BAD = CaneHouse.BAD, STATE = CaneHouse.STATE, FULL = CaneHouse.FULL;
    private static final Check check = new Check("BadRodEdgesTest");
    private static final Edges edges = new Edges(check);

    public static void main(String[] args) {
        weighSets();
        weighAllSets();
        weighOutcomes();
        weighIsFull();
        anew();
        bad();
        badOfEachCase();
        next();
        nextOfSeveral();
        nextAfterEachWeighing();
        nextWhenFull();
        count();
        countFromEmptyToFull();
        trace();
        check.finish();
    }

    private static void due(String call, long got, long want) {
        check.due(call, got, want);
    }

    // ---- Promise 33: rods 0 .. 8; some on the left, as many on the right, none on both; -1, 0, 1; 6 at most

    private static void weighSets() {
        edges.range("weigh(1, 2, v)", Houses::busy, (h, v) -> h.weigh(1, 2, v), -1, 1, BAD);
        int[][] wrong = {
            {0, 0}, {0, 1}, {1, 0}, {1, 1}, {3, 3}, {3, 6}, {1, 6}, {6, 1}, {1, 512}, {512, 1}, {513, 2}, {2, 513},
            {512, 1024}, {-1, 1}, {1, -1}, {Integer.MIN_VALUE, 1}, {1, Integer.MIN_VALUE}, {511, 511}, {31, 480},
            {31, 992}, {256, 256}, {15, 496}, {Integer.MAX_VALUE, 1}};
        for (int[] sets : wrong) {
            for (int outcome = -1; outcome <= 1; outcome++) {
                int told = outcome;
                String call = "weigh(" + sets[0] + ", " + sets[1] + ", " + outcome + ")";
                edges.refused(call, Houses::busy, h -> h.weigh(sets[0], sets[1], told), BAD);
            }
        }
        edges.taken("rods 0 and 8", CaneHouse::new, h -> h.weigh(1, 256, 0), 14);
        edges.taken("rods 8 and 0", CaneHouse::new, h -> h.weigh(256, 1, 1), 2);
        edges.taken("four and four", CaneHouse::new, h -> h.weigh(15, 480, 0), 2);
        edges.taken("four and four", CaneHouse::new, h -> h.weigh(480, 15, -1), 8);
    }

    /** Every pair of numbers from -1 to 513 is taken or refused as the document's words say. */
    private static void weighAllSets() {
        for (int left = -1; left <= 513; left++) {
            CaneHouse x = new CaneHouse();
            int calls = 0;
            for (int right = -1; right <= 513; right++) {
                boolean rods = left >= 1 && left <= 511 && right >= 1 && right <= 511;
                boolean right1 = rods && (left & right) == 0 && Integer.bitCount(left) == Integer.bitCount(right);
                due("weigh(" + left + ", " + right + ", 0)", x.weigh(left, right, 0),
                        right1 ? 18 - 4 * Integer.bitCount(left) : BAD);
                calls++;
                if (right1 || calls > 500) {
                    x = new CaneHouse();
                    calls = 0;
                }
            }
        }
    }

    private static void weighOutcomes() {
        CaneHouse x = new CaneHouse();
        due("the left is lighter", x.weigh(1, 256, -1), 2);
        due("then the right one may be heavy", x.bad(1), 256);
        due("and the left one light", x.bad(2), 1);
        CaneHouse y = new CaneHouse();
        due("the left is heavier", y.weigh(1, 256, 1), 2);
        due("then the left one may be heavy", y.bad(1), 1);
        due("and the right one light", y.bad(2), 256);
        CaneHouse z = new CaneHouse();
        due("alike", z.weigh(1, 256, 0), 14);
        due("neither is heavy", z.bad(1), 254);
        due("nor light", z.bad(2), 254);
    }

    private static CaneHouse weighed(int times) {
        CaneHouse x = new CaneHouse();
        for (int i = 0; i < times; i++) {
            x.weigh(3, 12, 0);
        }
        return x;
    }

    private static void weighIsFull() {
        edges.taken("the first", () -> weighed(0), h -> h.weigh(1, 2, 1), 2);
        edges.taken("the sixth", () -> weighed(5), h -> h.weigh(16, 32, 1), 2);
        edges.refused("the seventh", () -> weighed(6), h -> h.weigh(16, 32, 1), FULL);
        edges.refused("BAD before FULL: an outcome", () -> weighed(6), h -> h.weigh(1, 2, 2), BAD);
        edges.refused("BAD before FULL: not as many", () -> weighed(6), h -> h.weigh(1, 6, 0), BAD);
        edges.refused("BAD before FULL: on both", () -> weighed(6), h -> h.weigh(1, 1, 0), BAD);
        edges.refused("BAD before FULL: none", () -> weighed(6), h -> h.weigh(0, 0, 0), BAD);
        edges.refused("BAD before FULL: no such rod", () -> weighed(6), h -> h.weigh(512, 1, 0), BAD);
        edges.refused("the seventh, none LEFT", Houses::fullOfDoubt, h -> h.weigh(16, 32, 1), FULL);
    }

    // ---- Promise 34: there are no weighings

    private static void anew() {
        for (int times = 0; times <= 6; times++) {
            CaneHouse x = weighed(times);
            due("how many there are", x.count(5), times);
            check.holds("BEST NEXT is asked before, so that it must not be kept", x.next(0) >= 1);
            due("how many there were", x.anew(), times);
            nextIs(x, 7, 56, 6);
            due("there are none", x.count(5), 0);
            due("none again", x.anew(), 0);
            due("all cases", x.bad(0), 18);
            due("heavy ones", x.bad(1), 511);
            due("light ones", x.bad(2), 511);
            due("one can be told again", x.weigh(1, 2, 1), 2);
        }
        CaneHouse y = Houses.fullOfDoubt();
        due("none LEFT", y.next(0), STATE);
        due("six", y.anew(), 6);
        due("BEST NEXT again", y.next(0), 7);
    }

    // ---- Promise 35: how many, too heavy, too light

    private static void bad() {
        edges.range("bad(v)", Houses::busy, (h, v) -> h.bad(v), 0, 2, BAD);
        edges.range("bad(v) of none", Houses::fullOfDoubt, (h, v) -> h.bad(v), 0, 2, BAD);
        for (int what = 0; what <= 2; what++) {
            int asked = what;
            edges.taken("none LEFT", Houses::fullOfDoubt, h -> h.bad(asked), 0);
        }
    }

    /** One rod after another against two others: each of the 18 cases can be the one that is LEFT. */
    private static void badOfEachCase() {
        for (int rod = 0; rod < 9; rod++) {
            int one = 1 << (rod + 1) % 9;
            int other = 1 << (rod + 2) % 9;
            for (int outcome = -1; outcome <= 1; outcome += 2) {
                CaneHouse x = new CaneHouse();
                due("two cases", x.weigh(1 << rod, one, outcome), 2);
                due("one case", x.weigh(1 << rod, other, outcome), 1);
                due("heavy", x.bad(1), outcome == 1 ? 1 << rod : 0);
                due("light", x.bad(2), outcome == 1 ? 0 : 1 << rod);
                due("any weighing leaves it", x.next(2), 1);
                due("the least left set", x.next(0), 1);
                due("the least right set", x.next(1), 2);
                due("no case", x.weigh(1 << rod, other, 0), 0);
                due("none is LEFT", x.next(2), STATE);
            }
        }
    }

    // ---- Promise 36: the greatest number is least; fewest rods, least left, least right; STATE: none is LEFT

    private static void next() {
        edges.range("next(v)", Houses::busy, (h, v) -> h.next(v), 0, 2, BAD);
        edges.range("BAD before STATE: next(v)", Houses::fullOfDoubt, (h, v) -> h.next(v), 0, 2, BAD);
        for (int what = 0; what <= 2; what++) {
            int asked = what;
            edges.refused("none is LEFT", Houses::fullOfDoubt, h -> h.next(asked), STATE);
        }
    }

    private static void nextIs(CaneHouse x, int left, int right, int most) {
        for (int i = 0; i < 2; i++) {
            due("left", x.next(0), left);
            due("right", x.next(1), right);
            due("most", x.next(2), most);
        }
    }

    private static void nextOfSeveral() {
        CaneHouse x = new CaneHouse();
        nextIs(x, 7, 56, 6);
        x.weigh(7, 56, 0);
        // Six cases of the rods 6, 7, 8: one against one will do.
        nextIs(x, 64, 128, 2);
        x.weigh(64, 128, 0);
        // Rod 8, too heavy or too light: against the least one that is good.
        nextIs(x, 1, 256, 1);
        CaneHouse y = new CaneHouse();
        y.weigh(7, 56, 1);
        // 0 .. 2 may be heavy, 3 .. 5 light: two on a side are enough, of them the least sets.
        nextIs(y, 9, 18, 2);
    }

    /** All weighings that can be told, in the order in which the document takes the first of several. */
    private static List<int[]> allWeighings() {
        List<int[]> all = new ArrayList<>();
        for (int rods = 1; rods <= 4; rods++) {
            for (int l = 1; l < 512; l++) {
                for (int r = 1; r < 512; r++) {
                    if ((l & r) == 0 && Integer.bitCount(l) == rods && Integer.bitCount(r) == rods) {
                        all.add(new int[] {l, r});
                    }
                }
            }
        }
        return all;
    }

    private static int most(int heavy, int light, int l, int r) {
        int up = Integer.bitCount(heavy & l) + Integer.bitCount(light & r);
        int down = Integer.bitCount(heavy & r) + Integer.bitCount(light & l);
        int even = Integer.bitCount(heavy & ~(l | r)) + Integer.bitCount(light & ~(l | r));
        return Math.max(even, Math.max(up, down));
    }

    /** What next() has to answer: the first of all weighings whose greatest number is least. */
    private static void nextIsFirstOf(List<int[]> all, CaneHouse x) {
        int heavy = x.bad(1);
        int light = x.bad(2);
        int[] best = all.get(0);
        for (int[] sets : all) {
            if (most(heavy, light, sets[0], sets[1]) < most(heavy, light, best[0], best[1])) {
                best = sets;
            }
        }
        nextIs(x, best[0], best[1], most(heavy, light, best[0], best[1]));
    }

    private static void nextAfterEachWeighing() {
        List<int[]> all = allWeighings();
        due("weighings that can be told", all.size(), 72 + 756 + 1680 + 630);
        for (int[] sets : all) {
            for (int outcome = -1; outcome <= 1; outcome++) {
                CaneHouse x = new CaneHouse();
                x.weigh(sets[0], sets[1], outcome);
                nextIsFirstOf(all, x);
            }
        }
    }

    /** BEST NEXT is told even if no weighing more is taken. */
    private static void nextWhenFull() {
        CaneHouse x = weighed(6);
        due("ten cases are LEFT", x.bad(0), 10);
        nextIsFirstOf(allWeighings(), x);
        due("no more weighings", x.weigh(x.next(0), x.next(1), 0), FULL);
    }

    // ---- Promise 37: what 0 .. 5

    private static void count() {
        edges.range("count(v)", CaneHouse::new, (h, v) -> h.count(v), 0, 5, BAD);
        edges.range("count(v)", Houses::busy, (h, v) -> h.count(v), 0, 5, BAD);
        edges.range("count(v)", Houses::full, (h, v) -> h.count(v), 0, 5, BAD);
        int[] counts = {16, 15, 2, 2, 8, 6};
        for (int what = 0; what < counts.length; what++) {
            int asked = what;
            edges.taken("count(" + what + ") of a full one", Houses::full, h -> h.count(asked), counts[what]);
        }
    }

    private static void countFromEmptyToFull() {
        CaneHouse x = new CaneHouse();
        for (int i = 0; i <= 17; i++) {
            due("CANES", x.count(0), Math.min(i, 16));
            due("those not USED UP", x.count(1), Math.min(i, 16));
            due("ORDERS", x.count(4), Math.min(i, 8));
            due("WEIGHINGS", x.count(5), Math.min(i, 6));
            x.rod(1, 1);
            x.order(1);
            x.weigh(1, 2, 0);
        }
        for (int i = 0; i < 16; i++) {
            x.drop(i);
            due("CANES, USED UP ones too", x.count(0), 16);
            due("those not USED UP", x.count(1), 15 - i);
        }
    }

    // ---- Promise 38: numbers in brackets come to THE TRACE as often as view() asks that body

    private static void trace() {
        CaneHouse x = Houses.rods(1, 1);
        long due = 0;
        int[] adds = {1, 11, 111};
        for (int i = 0; i < 240; i++) {
            x.view(i % 3, 0, 0, 0, 0);
            due += adds[i % 3];
            due("trace", x.trace(), due);
        }
        int[][] refused = {
            {3, 0, 0, 0, 0}, {-1, 0, 0, 0, 0}, {2, 1, 0, 0, 0}, {2, 0, 1, 0, 0}, {2, 0, 0, 1, 0}, {2, 0, 0, 0, 1}};
        for (int[] r : refused) {
            due("a refused view", x.view(r[0], r[1], r[2], r[3], r[4]), BAD);
            due("leaves no trace", x.trace(), due);
        }
    }
}
