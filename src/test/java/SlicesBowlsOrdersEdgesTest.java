/** Promises 23 to 32 at their edges: a test for each sentence of the document that names one. */
public final class SlicesBowlsOrdersEdgesTest {
    private static final int BAD = CaneHouse.BAD, FULL = CaneHouse.FULL, NONE = CaneHouse.NONE;
    private static final Check check = new Check("SlicesBowlsOrdersEdgesTest");
    private static final Edges edges = new Edges(check);

    public static void main(String[] args) {
        slice();
        sliceIsUnseenAnew();
        see();
        fits();
        fitsAsWide();
        fitsMirroredFirst();
        whose();
        two();
        twoAsWide();
        twoSeams();
        bowl();
        bowlNone();
        bowlMeetsRound();
        bowlUsedUp();
        bowlModulo();
        bowlCheapest();
        order();
        clear();
        saw();
        sticks();
        sticksGoOutEven();
        sticksFewest();
        check.finish();
    }

    private static void due(String call, long got, long want) {
        check.due(call, got, want);
    }

    private static int lastCane(CaneHouse x) {
        return x.count(0) - 1;
    }

    // ---- Promises 23, 24: a SIDE 1 .. 8; cells seen 0 .. 8 or not

    private static void slice() {
        edges.range("slice(v)", Houses::busy, (h, v) -> h.slice(v), 1, 8, BAD);
        for (int side = 1; side <= 8; side++) {
            int s = side;
            edges.taken("slice", Houses::busy, h -> h.slice(s), side);
        }
    }

    private static void sliceIsUnseenAnew() {
        for (int side = 1; side <= 8; side++) {
            CaneHouse x = new CaneHouse();
            x.slice(8);
            for (int i = 0; i < 64; i++) {
                x.see(i % 8, i / 8, 5);
            }
            due("all 64 are seen", x.count(3), 64);
            x.slice(side);
            due("nothing is seen", x.count(3), 0);
            for (int i = 0; i < side * side; i++) {
                due("not seen", x.see(i % side, i / side, 0), NONE);
                due("seen", x.count(3), i + 1);
            }
            x.slice(side);
            due("a slice of the same SIDE is new, too", x.count(3), 0);
        }
    }

    private static void see() {
        for (int side = 1; side <= 8; side++) {
            int last = side - 1;
            Edges.State state = sliced(side);
            edges.range("see x of " + side, state, (h, v) -> h.see(v, last, 2), 0, last, -2);
            edges.range("see y of " + side, state, (h, v) -> h.see(last, v, 2), 0, last, -2);
        }
        edges.range("see v", Houses::busy, (h, v) -> h.see(0, 1, v), 0, 8, -2);
        int[] nearNone = {-10, -8, -3, -2, -1};
        for (int v : nearNone) {
            edges.refused("see " + v, Houses::busy, h -> h.see(0, 1, v), -2);
        }
        CaneHouse x = new CaneHouse();
        due("not seen at first", x.see(0, 0, 8), NONE);
        due("the last that is taken", x.see(0, 0, 0), 8);
        due("air is seen", x.count(3), 1);
        due("the first that is taken", x.see(0, 0, NONE), 0);
        due("not seen", x.count(3), 0);
        due("NONE is taken", x.see(0, 0, NONE), NONE);
        CaneHouse y = sliced(3).made();
        y.see(2, 0, 6);
        due("column, then row", y.see(0, 2, 1), NONE);
        due("column, then row", y.see(2, 0, 1), 6);
    }

    private static Edges.State sliced(int side) {
        return () -> {
            CaneHouse x = Houses.busy();
            x.slice(side);
            return x;
        };
    }

    // ---- Promises 25, 26: as wide; each cell seen is as in the picture, mirrored first, turned

    private static void fits() {
        edges.range("fits(v)", Houses::busy, (h, v) -> h.fits(v), 0, 7, BAD);
        edges.taken("a rod thrown away fits", Houses::withUsedUp, h -> h.fits(1), 255);
        edges.taken("a rod that a bundle used up fits", Houses::withUsedUp, h -> h.fits(2), 255);
    }

    private static void fitsAsWide() {
        for (int slice = 1; slice <= 8; slice++) {
            for (int side = 1; side <= 8; side++) {
                CaneHouse x = Houses.ofSide(side, 6);
                int cane = lastCane(x);
                x.slice(slice);
                due("nothing seen", x.fits(cane), side == slice ? 255 : 0);
                for (int i = 0; i < slice * slice; i++) {
                    x.see(i % slice, i / slice, 6);
                }
                due("all seen", x.fits(cane), side == slice ? 255 : 0);
                x.see(slice - 1, slice - 1, 7);
                due("the last cell is another", x.fits(cane), 0);
                x.see(slice - 1, slice - 1, 0);
                due("the last cell is air", x.fits(cane), 0);
                x.see(slice - 1, slice - 1, NONE);
                due("the last cell is not seen", x.fits(cane), side == slice ? 255 : 0);
            }
        }
    }

    private static final int[][] TURNED = {{1, 2, 3, 4}, {3, 1, 4, 2}, {4, 3, 2, 1}, {2, 4, 1, 3}};
    private static final int[][] MIRRORED = {{2, 1, 4, 3}, {4, 2, 3, 1}, {3, 4, 1, 2}, {1, 3, 2, 4}};

    private static void seeAll(CaneHouse x, int[] cells) {
        for (int i = 0; i < 4; i++) {
            x.see(i % 2, i / 2, cells[i]);
        }
    }

    private static void fitsMirroredFirst() {
        CaneHouse x = Houses.fourCells(30);
        x.slice(2);
        for (int t = 0; t < 4; t++) {
            seeAll(x, TURNED[t]);
            due("turned by " + t, x.fits(4), 1 << t);
            due("it is that cane's", x.whose(), 16);
            seeAll(x, MIRRORED[t]);
            due("mirrored, then turned by " + t, x.fits(4), 16 << t);
            due("it is that cane's, mirrored", x.whose(), 16);
        }
    }

    private static void whose() {
        edges.taken("no canes", CaneHouse::new, CaneHouse::whose, 0);
        edges.taken("all sixteen", () -> Houses.rods(16, 1), CaneHouse::whose, 65535);
        for (int i = 0; i < 16; i++) {
            CaneHouse x = new CaneHouse();
            for (int j = 0; j < 16; j++) {
                x.rod(i == j ? 2 : 1, 1);
            }
            x.see(0, 0, 2);
            due("cane " + i + " alone", x.whose(), 1 << i);
            x.drop(i);
            due("used up, too", x.whose(), 1 << i);
            x.see(0, 0, 1);
            due("all but " + i, x.whose(), 65535 - (1 << i));
            x.see(0, 0, 0);
            due("air is nobody's", x.whose(), 0);
        }
    }

    // ---- Promise 27: m 1 .. p - 1; both as wide; not mirrored

    private static void two() {
        edges.range("two(v, 4)", Houses::busy, (h, v) -> h.two(v, 4), 0, 7, BAD);
        edges.range("two(4, v)", Houses::busy, (h, v) -> h.two(4, v), 0, 7, BAD);
        edges.refused("BAD, though the other is not as wide", Houses::busy, h -> h.two(4, 8), BAD);
        edges.refused("both are no canes", Houses::busy, h -> h.two(8, -1), BAD);
        for (int side = 1; side <= 8; side++) {
            CaneHouse x = Houses.ofSide(side, 6);
            int cane = lastCane(x);
            x.slice(side);
            due("sixteen turns by p - 1 seams, SIDE " + side, x.two(cane, cane), 16 * (side - 1));
            x.drop(cane);
            due("used up, too", x.two(cane, cane), 16 * (side - 1));
        }
    }

    private static void twoAsWide() {
        for (int slice = 1; slice <= 8; slice++) {
            CaneHouse x = new CaneHouse();
            for (int i = 0; i < 4; i++) {
                int cane = x.rod(1, 9);
                for (int ring = 0; ring < i; ring++) {
                    x.cased(cane, 1);
                }
            }
            x.slice(slice);
            for (int a = 0; a < 4; a++) {
                for (int b = 0; b < 4; b++) {
                    boolean both = 2 * a + 1 == slice && 2 * b + 1 == slice;
                    due("both as wide, or 0", x.two(a, b), both ? 16 * (slice - 1) : 0);
                }
            }
        }
    }

    /** Canes all of one glass: what is seen in a column tells whose it is, and the seam is at 1 .. p - 1. */
    private static void twoSeams() {
        CaneHouse x = Houses.rods(2, 9);
        for (int cane = 0; cane < 2; cane++) {
            x.cased(cane, 1 + cane);
            x.cased(cane, 1 + cane);
        }
        int p = 5;
        for (int m = 1; m < p; m++) {
            x.slice(p);
            x.see(m - 1, 0, 1);
            x.see(m, p - 1, 2);
            due("the seam is at " + m, x.two(0, 1), 16);
            due("not the other way round", x.two(1, 0), 0);
            due("not of one alone", x.two(0, 0) + x.two(1, 1), 0);
        }
        for (int y = 0; y < p; y++) {
            x.slice(p);
            x.see(0, y, 2);
            due("the first column is the first one's, always", x.two(0, 1), 0);
            due("it may be", x.two(1, 0), 64);
            x.slice(p);
            x.see(p - 1, y, 1);
            due("the last column is the second one's, always", x.two(0, 1), 0);
            due("it may be", x.two(1, 0), 64);
        }
        CaneHouse z = Houses.fourCells(30);
        z.slice(2);
        seeAll(z, new int[] {2, 1, 4, 3});
        due("columns 2 4 and 1 3 are of the mirrored one", z.two(4, 4), 0);
        seeAll(z, new int[] {1, 2, 3, 4});
        due("columns 1 3 and 2 4", z.two(4, 4), 1);
    }

    // ---- Promise 28: 2 .. 12 slices of one SIDE; the last meets the first; modulo 1000000007; NONE

    private static void bowl() {
        for (int what = 0; what <= 1; what++) {
            int asked = what;
            edges.range("bowl(v, 2, " + what + ")", Houses::busy, (h, v) -> h.bowl(v, 2, asked), 2, 12, BAD);
            edges.range("bowl(2, v, " + what + ")", Houses::busy, (h, v) -> h.bowl(2, v, asked), 1, 8, BAD);
        }
        edges.range("bowl(2, 1, v)", Houses::busy, (h, v) -> h.bowl(2, 1, v), 0, 1, BAD);
        for (int side = 1; side <= 8; side++) {
            for (int asked = 1; asked <= 8; asked++) {
                CaneHouse x = Houses.ofSide(side, 3);
                // The rod that an even side is made of is left, too.
                boolean has = asked == side || asked == 1 && side % 2 == 0;
                for (int n = 2; n <= 12; n += 5) {
                    due("ways", x.bowl(n, asked, 0), has ? 1L << 2 * n : 0);
                    due("cheapest", x.bowl(n, asked, 1), has ? n * asked * asked : NONE);
                }
            }
        }
    }

    private static void bowlNone() {
        for (int n = 2; n <= 12; n++) {
            for (int side = 1; side <= 8; side++) {
                CaneHouse x = new CaneHouse();
                due("no canes: ways", x.bowl(n, side, 0), 0);
                due("no canes: cheapest", x.bowl(n, side, 1), NONE);
            }
            CaneHouse y = Houses.fourCells(30);
            due("1 2 over 3 4 meets nothing: ways", y.bowl(n, 2, 0), 0);
            due("1 2 over 3 4 meets nothing: cheapest", y.bowl(n, 2, 1), NONE);
        }
    }

    /** From a column 1 1 1 to 2 2 2, and turned by two back again: the last slice has to meet the first one. */
    private static void bowlMeetsRound() {
        CaneHouse x = Houses.rods(3, 100);
        x.table(3);
        int[] cells = {1, 3, 2, 1, 1, 2, 1, 2, 2};
        for (int i = 0; i < 9; i++) {
            x.lay(i % 3, i / 3, cells[i] - 1, 0);
        }
        due("its number", x.bundle(5), 3);
        for (int n = 2; n <= 12; n++) {
            due("there and back, ways of " + n, x.bowl(n, 3, 0), n % 2 == 0 ? 2 : 0);
            due("there and back, cheapest of " + n, x.bowl(n, 3, 1), n % 2 == 0 ? 9 * n : NONE);
        }
    }

    private static void bowlUsedUp() {
        CaneHouse x = Houses.rods(2, 1);
        due("one inch is enough", x.bowl(2, 1, 0), 32);
        x.drop(0);
        due("not of what is used up", x.bowl(2, 1, 0), 16);
        due("cheapest of what is left", x.bowl(2, 1, 1), 2);
        x.drop(1);
        due("no ways", x.bowl(2, 1, 0), 0);
        due("NONE", x.bowl(2, 1, 1), NONE);
    }

    private static void bowlModulo() {
        CaneHouse x = new CaneHouse();
        for (int i = 0; i < 16; i++) {
            x.rod(7, 1);
        }
        due("64 to the power 4", x.bowl(4, 1, 0), 16777216);
        due("64 to the power 5 is more than 1000000007", x.bowl(5, 1, 0), 1073741824 - 1000000007);
        CaneHouse y = Houses.rods(16, 1);
        // Of each of eight glasses two rods: eight times 8 to the power n.
        long power = 8;
        for (int n = 1; n <= 12; n++) {
            power = power * 8;
            if (n >= 2) {
                due("8 times 8 to the power " + n, y.bowl(n, 1, 0), power % 1000000007L);
            }
        }
    }

    private static void bowlCheapest() {
        CaneHouse x = Houses.rods(2, 9);
        x.glass(1, 1, 9);
        x.glass(2, 1, 8);
        due("the cheaper one alone", x.bowl(12, 1, 1), 96);
        x.glass(2, 1, 9);
        due("both as dear", x.bowl(12, 1, 1), 108);
        CaneHouse y = Houses.ofSide(8, 4);
        y.glass(4, 1, 9);
        due("the dearest bowl", y.bowl(12, 8, 1), 12 * 64 * 9);
    }

    // ---- Promises 29, 30, 31: orders 1 .. 99, 8 at most; SAW 0 .. 3, 1 at first

    private static CaneHouse ordered(int many, int inches) {
        CaneHouse x = new CaneHouse();
        for (int i = 0; i < many; i++) {
            x.order(inches);
        }
        return x;
    }

    private static void order() {
        edges.range("order(v)", Houses::busy, (h, v) -> h.order(v), 1, 99, BAD);
        edges.taken("the first", CaneHouse::new, h -> h.order(1), 1);
        edges.taken("the eighth", () -> ordered(7, 5), h -> h.order(99), 8);
        edges.refused("the ninth", () -> ordered(8, 5), h -> h.order(99), FULL);
        edges.refused("BAD before FULL: 0", () -> ordered(8, 5), h -> h.order(0), BAD);
        edges.refused("BAD before FULL: 100", () -> ordered(8, 5), h -> h.order(100), BAD);
    }

    private static void clear() {
        for (int many = 0; many <= 8; many++) {
            CaneHouse x = ordered(many, 99);
            due("how many there are", x.count(4), many);
            due("how many there were", x.clear(), many);
            due("there are none", x.count(4), 0);
            due("none again", x.clear(), 0);
            due("no sticks", x.sticks(1), 0);
            due("the first again", x.order(1), 1);
            due("it alone is cut", x.sticks(1), 1);
        }
    }

    private static void saw() {
        edges.range("saw(v)", Houses::busy, (h, v) -> h.saw(v), 0, 3, BAD);
        CaneHouse x = new CaneHouse();
        due("at first", x.saw(3), 1);
        due("the last that is taken", x.saw(0), 3);
        due("the first that is taken", x.saw(2), 0);
    }

    // ---- Promise 32: sticks of 1 .. 300 inches; SAW more for each, but for what goes out even; NONE

    private static void sticks() {
        edges.range("sticks(v)", Houses::busy, (h, v) -> h.sticks(v), 1, 300, BAD);
        edges.range("sticks(v) without orders", CaneHouse::new, (h, v) -> h.sticks(v), 1, 300, BAD);
        edges.taken("0 without orders", CaneHouse::new, h -> h.sticks(1), 0);
        edges.taken("0 without orders", CaneHouse::new, h -> h.sticks(300), 0);
        edges.taken("one is longer", () -> ordered(1, 99), h -> h.sticks(98), NONE);
        edges.taken("one is as long", () -> ordered(1, 99), h -> h.sticks(99), 1);
        edges.taken("an inch of an inch", () -> ordered(1, 1), h -> h.sticks(1), 1);
        CaneHouse x = ordered(7, 1);
        x.order(99);
        due("one of eight is longer", x.sticks(98), NONE);
        due("none is longer", x.sticks(99), 2);
    }

    /** A rest that is less than the saw is wide is neither even nor enough. */
    private static void sticksGoOutEven() {
        for (int saw = 0; saw <= 3; saw++) {
            CaneHouse x = ordered(1, 10);
            x.saw(saw);
            for (int length = 9; length <= 14; length++) {
                boolean goes = length == 10 || length >= 10 + saw;
                due("10 of " + length + ", SAW " + saw, x.sticks(length), goes ? 1 : NONE);
            }
            x.order(10);
            for (int length = 19; length <= 30; length++) {
                int even = 20 + saw;
                boolean both = length == even || length >= even + saw;
                due("10 and 10 of " + length + ", SAW " + saw, x.sticks(length), both ? 1 : 2);
            }
        }
    }

    private static void sticksFewest() {
        // SAW, a stick's inches, how many it takes for eight of 99.
        int[][] rows = {
            {0, 99, 8}, {0, 197, 8}, {0, 198, 4}, {0, 296, 4}, {0, 297, 3}, {0, 300, 3}, {1, 198, 8}, {1, 199, 4},
            {1, 200, 4}, {1, 298, 4}, {1, 299, 3}, {1, 300, 3}, {2, 300, 4}, {2, 199, 8}, {2, 200, 4}, {2, 201, 8},
            {2, 202, 4}, {3, 100, NONE}, {3, 101, NONE}, {3, 102, 8}, {3, 200, 8}, {3, 201, 4}, {3, 202, 8},
            {3, 203, 8}, {3, 204, 4}, {3, 300, 4}};
        for (int[] row : rows) {
            CaneHouse x = ordered(8, 99);
            x.saw(row[0]);
            due("eight of 99, SAW " + row[0] + ", sticks of " + row[1], x.sticks(row[1]), row[2]);
        }
        CaneHouse y = new CaneHouse();
        int[] inches = {60, 50, 40, 35, 35, 30, 25, 25};
        for (int v : inches) {
            y.order(v);
        }
        y.saw(0);
        due("60 40, 50 25 25, 35 35 30", y.sticks(100), 3);
        due("all of one", y.sticks(300), 1);
        y.saw(1);
        due("with a saw they do not go out even", y.sticks(100), 4);
    }
}
