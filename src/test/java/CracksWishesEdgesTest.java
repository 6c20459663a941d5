/** Promises 16 to 22 at their edges: a test for each sentence of the document that names one. */
public final class CracksWishesEdgesTest {
    private static final int BAD = CaneHouse.BAD;
    private static final Check check = new Check("CracksWishesEdgesTest");
    private static final Edges edges = new Edges(check);

    public static void main(String[] args) {
        tolerance();
        cracks();
        cracksMoreThanTolerance();
        cracksOfToleranceEnds();
        cracksDoNotWrapAround();
        cracksOfCorners();
        leastOutEdges();
        leastOutOfChains();
        leastOutOfWidest();
        wish();
        wishIsAirAnew();
        want();
        unlike();
        unlikeTurned();
        unlikeFromTheCorner();
        unlikeMost();
        plan();
        planIsBest();
        made();
        madeMirroredFirst();
        check.finish();
    }

    private static void due(String call, long got, long want) {
        check.due(call, got, want);
    }

    /** A cane of side k (2 .. 4) whose cells are rods of glasses, row by row. */
    private static int cane(CaneHouse x, int k, int... cells) {
        x.table(k);
        int[] rods = new int[9];
        for (int i = 0; i < k * k; i++) {
            int g = cells[i];
            if (rods[g] == 0) {
                rods[g] = 1 + x.rod(g, 9999);
            }
            x.lay(i % k, i / k, rods[g] - 1, 0);
        }
        return x.bundle(100);
    }

    // ---- Promise 16: TOLERANCE 0 .. 99; 15 at first

    private static void tolerance() {
        edges.range("tolerance(v)", Houses::busy, (h, v) -> h.tolerance(v), 0, 99, BAD);
        CaneHouse x = new CaneHouse();
        due("at first", x.tolerance(99), 15);
        due("the last that is taken", x.tolerance(0), 99);
        due("the first that is taken", x.tolerance(1), 0);
    }

    // ---- Promise 17: side by side; by more than TOLERANCE; how few cells have to be air

    private static void cracks() {
        edges.range("cracks(v, 0)", Houses::busy, (h, v) -> h.cracks(v, 0), 0, 7, BAD);
        edges.range("cracks(v, 1)", Houses::busy, (h, v) -> h.cracks(v, 1), 0, 7, BAD);
        edges.range("cracks(4, v)", Houses::busy, (h, v) -> h.cracks(4, v), 0, 1, BAD);
        edges.taken("of what was thrown away", Houses::withUsedUp, h -> h.cracks(1, 0), 0);
        CaneHouse x = new CaneHouse();
        int c = cane(x, 2, 1, 8, 8, 1);
        x.drop(c);
        due("CRACKS of a used up picture", x.cracks(c, 0), 4);
        due("LEAST OUT of a used up picture", x.cracks(c, 1), 2);
    }

    private static void cracksMoreThanTolerance() {
        CaneHouse x = new CaneHouse();
        int c = cane(x, 2, 1, 2, 1, 2);
        for (int tolerance = 0; tolerance <= 99; tolerance += 11) {
            x.tolerance(tolerance);
            x.glass(1, 0, 0);
            x.glass(2, 0, tolerance);
            due("differ by TOLERANCE " + tolerance, x.cracks(c, 0), 0);
            due("none has to go", x.cracks(c, 1), 0);
            if (tolerance < 99) {
                x.glass(2, 0, tolerance + 1);
                due("differ by one more than " + tolerance, x.cracks(c, 0), 2);
                due("two have to go", x.cracks(c, 1), 2);
                x.glass(1, 0, tolerance + 1);
                x.glass(2, 0, 0);
                due("the other way round", x.cracks(c, 0), 2);
            }
        }
    }

    private static void cracksOfToleranceEnds() {
        CaneHouse x = new CaneHouse();
        int c = cane(x, 2, 1, 2, 1, 2);
        x.glass(1, 0, 0);
        x.glass(2, 0, 99);
        x.tolerance(99);
        due("TOLERANCE 99: nothing differs by more", x.cracks(c, 0), 0);
        x.tolerance(98);
        due("TOLERANCE 98: 0 and 99 do", x.cracks(c, 0), 2);
        x.tolerance(0);
        x.glass(2, 0, 1);
        due("TOLERANCE 0: 0 and 1 do", x.cracks(c, 0), 2);
        x.glass(2, 0, 0);
        due("TOLERANCE 0: equal ones do not", x.cracks(c, 0), 0);
    }

    /** The end of a row does not touch its own beginning, nor the beginning of the next row. */
    private static void cracksDoNotWrapAround() {
        CaneHouse x = new CaneHouse();
        int c = cane(x, 4, 1, 2, 3, 4, 1, 2, 3, 4, 1, 2, 3, 4, 1, 2, 3, 4);
        due("columns 1 2 3 4", x.cracks(c, 0), 0);
        due("none has to go", x.cracks(c, 1), 0);
        CaneHouse y = new CaneHouse();
        int d = cane(y, 4, 1, 1, 1, 1, 2, 2, 2, 2, 3, 3, 3, 3, 4, 4, 4, 4);
        due("rows 1 2 3 4", y.cracks(d, 0), 0);
        due("none has to go", y.cracks(d, 1), 0);
        y.tolerance(9);
        due("all rows crack", y.cracks(d, 0), 12);
        due("two rows have to go", y.cracks(d, 1), 8);
    }

    /** Cells that meet at a corner are not side by side. */
    private static void cracksOfCorners() {
        CaneHouse x = new CaneHouse();
        int c = cane(x, 2, 1, 2, 2, 3);
        due("1 and 3 meet at a corner", x.cracks(c, 0), 0);
        due("none has to go", x.cracks(c, 1), 0);
        CaneHouse y = new CaneHouse();
        int d = cane(y, 2, 2, 1, 3, 2);
        due("1 and 3 meet at the other corner", y.cracks(d, 0), 0);
        due("none has to go", y.cracks(d, 1), 0);
    }

    private static void leastOutEdges() {
        CaneHouse x = Houses.rods(1, 5);
        x.tolerance(0);
        due("one cell: CRACKS", x.cracks(0, 0), 0);
        due("one cell: LEAST OUT", x.cracks(0, 1), 0);
        x.cased(0, 8);
        due("one cell in a ring: CRACKS", x.cracks(0, 0), 4);
        due("one cell in a ring: LEAST OUT", x.cracks(0, 1), 1);
        x.cased(0, 8);
        due("the outer ring cracks nothing", x.cracks(0, 0), 4);
        x.cased(0, 1);
        due("three rings: CRACKS", x.cracks(0, 0), 4 + 20);
        // The middle cell goes, and each of the 16 cells of the ring within the outermost.
        due("three rings: LEAST OUT", x.cracks(0, 1), 1 + 16);
        CaneHouse y = new CaneHouse();
        int c = cane(y, 4, 1, 5, 1, 5, 2, 4, 2, 4, 3, 3, 3, 3, 3, 3, 3, 3);
        due("a row of four and one of four: CRACKS", y.cracks(c, 0), 6);
        due("a row of four and one of four: LEAST OUT", y.cracks(c, 1), 4);
    }

    /**
     * Four cells in a chain of three pairs: whoever takes the middle pair first finds no second one, yet one
     * cell is not enough. The chain lies in all turns, mirrored and not.
     */
    private static void leastOutOfChains() {
        int[][] chains = {
            {1, 5, 3, 3}, {3, 1, 3, 5}, {3, 3, 5, 1}, {5, 3, 1, 3}, {5, 1, 3, 3}, {3, 5, 3, 1}, {3, 3, 1, 5},
            {1, 3, 5, 3}};
        for (int[] cells : chains) {
            CaneHouse x = new CaneHouse();
            int c = cane(x, 2, cells);
            due("a chain: CRACKS", x.cracks(c, 0), 3);
            due("a chain: LEAST OUT", x.cracks(c, 1), 2);
        }
    }

    private static void leastOutOfWidest() {
        CaneHouse x = Houses.ofSide(8, 1);
        x.tolerance(0);
        due("one glass, SIDE 8: CRACKS", x.cracks(1, 0), 0);
        due("one glass, SIDE 8: LEAST OUT", x.cracks(1, 1), 0);
        CaneHouse y = new CaneHouse();
        int small = cane(y, 2, 1, 8, 8, 1);
        Houses.layEverywhere(y, 4, small);
        int board = y.bundle(1);
        due("a chessboard: CRACKS", y.cracks(board, 0), 112);
        due("a chessboard: LEAST OUT", y.cracks(board, 1), 32);
        y.glass(8, 0, 26);
        due("just beyond the TOLERANCE", y.cracks(board, 0), 112);
        y.glass(8, 0, 25);
        due("just within it", y.cracks(board, 0), 0);
        due("none has to go", y.cracks(board, 1), 0);
    }

    // ---- Promises 18, 19: a WISH of SIDE 1, 2, 4 or 8, all air at first; cells 0 .. 8

    private static void wish() {
        int[] wrong = {Integer.MIN_VALUE, -8, -2, -1, 0, 3, 5, 6, 7, 9, 10, 12, 15, 16, 32, 256, Integer.MAX_VALUE};
        for (int side : wrong) {
            edges.refused("wish(" + side + ")", Houses::busy, h -> h.wish(side), BAD);
        }
        for (int side = 1; side <= 8; side *= 2) {
            int s = side;
            edges.taken("wish(" + side + ")", Houses::busy, h -> h.wish(s), side);
        }
    }

    private static void wishIsAirAnew() {
        for (int side = 1; side <= 8; side *= 2) {
            CaneHouse x = new CaneHouse();
            x.wish(8);
            for (int i = 0; i < 64; i++) {
                x.want(i % 8, i / 8, 5);
            }
            x.wish(side);
            for (int i = 0; i < side * side; i++) {
                due("all air", x.want(i % side, i / side, 7), 0);
            }
            x.wish(side);
            due("a wish of the same SIDE is new, too", x.want(side - 1, side - 1, 7), 0);
        }
    }

    private static void want() {
        for (int side = 1; side <= 8; side *= 2) {
            int last = side - 1;
            Edges.State state = wished(side);
            edges.range("want x of " + side, state, (h, v) -> h.want(v, last, 2), 0, last, BAD);
            edges.range("want y of " + side, state, (h, v) -> h.want(last, v, 2), 0, last, BAD);
        }
        edges.range("want g", Houses::busy, (h, v) -> h.want(1, 2, v), 0, 8, BAD);
        edges.refused("no cell is wanted as NONE", Houses::busy, h -> h.want(1, 2, CaneHouse.NONE), BAD);
        CaneHouse x = new CaneHouse();
        due("air at first", x.want(0, 0, 8), 0);
        due("the last that is taken", x.want(0, 0, 0), 8);
        due("the first that is taken", x.want(0, 0, 1), 0);
        CaneHouse y = wished(4).made();
        y.want(3, 0, 6);
        due("column, then row", y.want(0, 3, 1), 0);
        due("column, then row", y.want(3, 0, 1), 6);
    }

    private static Edges.State wished(int side) {
        return () -> {
            CaneHouse x = Houses.busy();
            x.wish(side);
            return x;
        };
    }

    // ---- Promise 20: a SIDE 1, 2, 4, 8, no more than the WISH's; turned ones once

    private static void unlike() {
        int[] sides = {Integer.MIN_VALUE, -8, -1, 0, 1, 2, 3, 4, 5, 6, 7, 8, 9, 16, Integer.MAX_VALUE};
        for (int wish = 1; wish <= 8; wish *= 2) {
            for (int side : sides) {
                boolean right = side >= 1 && side <= wish && Integer.bitCount(side) == 1;
                String call = "unlike(" + side + ") of " + wish;
                if (right) {
                    edges.taken(call + ", all air", wished(wish), h -> h.unlike(side), 1);
                } else {
                    edges.refused(call, wished(wish), h -> h.unlike(side), BAD);
                }
            }
        }
    }

    private static final int[][] TURNED = {{1, 2, 3, 4}, {3, 1, 4, 2}, {4, 3, 2, 1}, {2, 4, 1, 3}};
    private static final int[][] MIRRORED = {{2, 1, 4, 3}, {4, 2, 3, 1}, {3, 4, 1, 2}, {1, 3, 2, 4}};

    /** Puts a part of 2 times 2 into the wish. */
    private static void wantPart(CaneHouse x, int left, int top, int[] cells) {
        for (int i = 0; i < 4; i++) {
            x.want(left + i % 2, top + i / 2, cells[i]);
        }
    }

    private static void unlikeTurned() {
        CaneHouse x = new CaneHouse();
        x.wish(4);
        for (int t = 0; t < 4; t++) {
            wantPart(x, t % 2 * 2, t / 2 * 2, TURNED[t]);
        }
        due("all four turns of one", x.unlike(2), 1);
        for (int t = 0; t < 4; t++) {
            wantPart(x, t % 2 * 2, t / 2 * 2, TURNED[1]);
        }
        due("four that are not turned", x.unlike(2), 1);
        for (int t = 0; t < 4; t++) {
            wantPart(x, 2, 2, MIRRORED[t]);
            due("a mirrored one is another", x.unlike(2), 2);
        }
        for (int t = 0; t < 4; t++) {
            wantPart(x, t % 2 * 2, t / 2 * 2, MIRRORED[t]);
        }
        due("all four turns of the mirrored one", x.unlike(2), 1);
        due("each glass once", x.unlike(1), 4);
        due("the whole", x.unlike(4), 1);
        x.want(0, 0, 0);
        due("air is a picture's cell, too", x.unlike(2), 2);
        due("air counts", x.unlike(1), 5);
    }

    private static void unlikeFromTheCorner() {
        CaneHouse x = new CaneHouse();
        x.wish(8);
        x.want(3, 3, 1);
        due("in one part of 2", x.unlike(2), 2);
        due("in one part of 4", x.unlike(4), 2);
        x.want(4, 4, 1);
        due("in the opposite corner of a part: turned by two", x.unlike(4), 2);
        x.want(5, 4, 1);
        due("not so", x.unlike(4), 3);
        due("the last part is looked at", wantedLast(), 2);
    }

    private static long wantedLast() {
        CaneHouse x = new CaneHouse();
        x.wish(8);
        x.want(7, 7, 1);
        return x.unlike(1);
    }

    private static void unlikeMost() {
        CaneHouse x = new CaneHouse();
        x.wish(8);
        for (int i = 0; i < 64; i++) {
            x.want(i % 8, i / 8, i % 9);
        }
        due("air and all glasses", x.unlike(1), 9);
        CaneHouse y = new CaneHouse();
        y.wish(8);
        for (int i = 0; i < 16; i++) {
            // Two cells over one row: no two of these are turns of each other.
            y.want(i % 4 * 2, i / 4 * 2, 1 + i % 4);
            y.want(i % 4 * 2 + 1, i / 4 * 2, 5 + i / 4);
        }
        due("sixteen parts of 2, none alike", y.unlike(2), 16);
        due("four parts of 4, none alike", y.unlike(4), 4);
        due("the whole once", y.unlike(8), 1);
    }

    // ---- Promise 21: m 1 .. 3; from the WISH's SIDE down to 1, an eighth at most; the fewest

    private static void plan() {
        for (int what = 0; what <= 1; what++) {
            int asked = what;
            edges.range("plan(v, " + what + ")", Houses::busy, (h, v) -> h.plan(v, asked), 1, 3, BAD);
        }
        for (int m = 1; m <= 3; m++) {
            int most = m;
            edges.range("plan(" + m + ", v)", Houses::busy, (h, v) -> h.plan(most, v), 0, 1, BAD);
        }
    }

    private static void planIsBest() {
        CaneHouse x = new CaneHouse();
        for (int m = 1; m <= 3; m++) {
            due("a wish of one cell needs no bundle", x.plan(m, 0), 0);
            due("its SIDE is 1 already", x.plan(m, 1), 1);
        }
        for (int side = 2; side <= 8; side *= 2) {
            x.wish(side);
            for (int i = 0; i < side * side; i++) {
                x.want(i % side, i / side, i % 7);
            }
            for (int m = 1; m <= 3; m++) {
                due("the whole once, of rods", x.plan(m, 0), 1);
                due("its SIDE and 1, a half, a quarter or an eighth of it", x.plan(m, 1), side + 1);
            }
        }
    }

    // ---- Promise 22: turns as bits 0 .. 3, mirrored first 4 .. 7

    private static void made() {
        edges.range("made(v)", Houses::busy, (h, v) -> h.made(v), 0, 7, BAD);
        for (int wish = 1; wish <= 8; wish *= 2) {
            for (int side = 1; side <= 8; side++) {
                CaneHouse x = Houses.ofSide(side, 6);
                x.wish(wish);
                for (int i = 0; i < wish * wish; i++) {
                    x.want(i % wish, i / wish, 6);
                }
                int cane = 1 - side % 2;
                due("SIDE " + side + ", wish " + wish, x.made(cane), side == wish ? 255 : 0);
                if (side == wish) {
                    x.want(wish - 1, wish - 1, 0);
                    due("one cell is air", x.made(cane), 0);
                    x.want(wish - 1, wish - 1, 6);
                    x.drop(cane);
                    due("a used up one, too", x.made(cane), 255);
                }
            }
        }
    }

    private static void madeMirroredFirst() {
        CaneHouse x = Houses.fourCells(30);
        x.wish(2);
        for (int t = 0; t < 4; t++) {
            wantPart(x, 0, 0, TURNED[t]);
            due("turned by " + t, x.made(4), 1 << t);
            wantPart(x, 0, 0, MIRRORED[t]);
            due("mirrored, then turned by " + t, x.made(4), 16 << t);
        }
    }
}
