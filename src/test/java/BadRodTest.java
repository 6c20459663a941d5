/** Promises 33 to 38: one bad rod of nine, counts, the trace. */
public final class BadRodTest {
    private static final int BAD = CaneHouse.BAD, STATE = CaneHouse.STATE, FULL = CaneHouse.FULL;
    private static final Check check = new Check("BadRodTest");

    public static void main(String[] args) {
        weigh();
        wrongSets();
        anew();
        bad();
        next();
        nextSettlesAll();
        count();
        trace();
        check.finish();
    }

    private static void due(String call, long got, long want) {
        check.due(call, got, want);
    }

    private static void weigh() {
        CaneHouse x = new CaneHouse();
        due("left heavier", x.weigh(0b11, 0b1100, 1), 4);
        due("heavy ones", x.bad(1), 0b11);
        due("light ones", x.bad(2), 0b1100);
        due("left lighter", x.weigh(0b100, 0b1000, -1), 1);
        due("no heavy one", x.bad(1), 0);
        due("light one", x.bad(2), 0b100);
        due("a contradiction", x.weigh(0b100, 0b1, 0), 0);
        for (int i = 4; i <= 6; i++) {
            due("weighing " + i, x.weigh(1, 2, 1), 0);
        }
        due("the seventh", x.weigh(1, 2, 1), FULL);
        due("BAD stands before FULL", x.weigh(1, 2, 2), BAD);
        due("six", x.count(5), 6);
        CaneHouse y = new CaneHouse();
        due("alike", y.weigh(0b1111, 0b11110000, 0), 2);
        due("the ninth", y.bad(1), 256);
        due("the ninth", y.bad(2), 256);
    }

    private static void wrongSets() {
        CaneHouse x = new CaneHouse();
        int[][] wrong = {
            {0, 0, 0}, {0, 1, 0}, {1, 0, 0}, {1, 1, 0}, {3, 4, 0}, {3, 6, 0}, {1, 512, 0}, {512, 1, 0},
            {-1, 1, 0}, {1, -1, 0}, {1, 2, 2}, {1, 2, -2}, {513, 2, 0}, {Integer.MIN_VALUE, 1, 0}};
        for (int[] w : wrong) {
            due("weigh(" + w[0] + ", " + w[1] + ", " + w[2] + ")", x.weigh(w[0], w[1], w[2]), BAD);
        }
        due("none was taken", x.count(5), 0);
        due("all cases left", x.bad(0), 18);
    }

    private static void anew() {
        CaneHouse x = new CaneHouse();
        due("anew", x.anew(), 0);
        x.weigh(1, 2, 1);
        x.weigh(1, 2, -1);
        due("none left", x.bad(0), 0);
        due("anew", x.anew(), 2);
        due("all left again", x.bad(0), 18);
        due("next again", x.next(2), 6);
    }

    private static void bad() {
        CaneHouse x = new CaneHouse();
        due("bad(0)", x.bad(0), 18);
        due("bad(1)", x.bad(1), 511);
        due("bad(2)", x.bad(2), 511);
        due("bad(3)", x.bad(3), BAD);
        due("bad(-1)", x.bad(-1), BAD);
    }

    private static void next() {
        CaneHouse x = new CaneHouse();
        due("next(3)", x.next(3), BAD);
        due("next(-1)", x.next(-1), BAD);
        due("left", x.next(0), 7);
        due("right", x.next(1), 56);
        due("most", x.next(2), 6);
        x.weigh(1, 2, 1);
        // 0 is too heavy or 1 too light: one of them against a third rod, the least sets first.
        due("left", x.next(0), 1);
        due("right", x.next(1), 4);
        due("most", x.next(2), 1);
        x.weigh(1, 4, 1);
        due("one case: any weighing has it", x.next(2), 1);
        due("the least left set", x.next(0), 1);
        due("the least right set", x.next(1), 2);
        x.weigh(1, 4, -1);
        due("none is left", x.next(0), STATE);
        due("BAD stands before STATE", x.next(3), BAD);
    }

    /** Three weighings as told by next() find any one of the 18 cases. */
    private static void nextSettlesAll() {
        for (int rod = 0; rod < 9; rod++) {
            for (int weight = -1; weight <= 1; weight += 2) {
                CaneHouse x = new CaneHouse();
                for (int i = 0; i < 3; i++) {
                    int left = x.next(0);
                    int right = x.next(1);
                    int most = x.next(2);
                    int outcome = (left >> rod & 1) == 1 ? weight : (right >> rod & 1) == 1 ? -weight : 0;
                    check.holds("no more than next(2) are left", x.weigh(left, right, outcome) <= most);
                }
                due("one case left", x.bad(0), 1);
                due("it is that rod", x.bad(weight > 0 ? 1 : 2), 1 << rod);
            }
        }
    }

    private static void count() {
        CaneHouse x = new CaneHouse();
        x.rod(1, 5);
        x.rod(1, 5);
        x.drop(0);
        x.table(3);
        x.slice(2);
        x.see(0, 0, 0);
        x.see(1, 1, 8);
        x.see(0, 1, 8);
        x.order(4);
        x.weigh(1, 2, 0);
        x.weigh(1, 2, 0);
        int[] counts = {2, 1, 3, 3, 1, 2};
        for (int what = 0; what < counts.length; what++) {
            due("count(" + what + ")", x.count(what), counts[what]);
        }
        due("count(6)", x.count(6), BAD);
        due("count(-1)", x.count(-1), BAD);
    }

    private static void trace() {
        CaneHouse x = new CaneHouse();
        due("at first", x.trace(), 0);
        x.rod(1, 5);
        for (int i = 1; i <= 100; i++) {
            x.view(2, 0, 0, 0, 4);
            due("trace", x.trace(), 111L * i);
        }
        x.view(3, 0, 0, 0, 4);
        x.made(0);
        x.fits(0);
        x.two(0, 0);
        due("view alone leaves a trace", x.trace(), 11100);
    }
}
