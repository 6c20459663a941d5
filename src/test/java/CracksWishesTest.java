/** Promises 16 to 22: tolerance, cracks, the wish, plans. */
public final class CracksWishesTest {
    private static final int BAD = CaneHouse.BAD;
    private static final Check check = new Check("CracksWishesTest");

    public static void main(String[] args) {
        tolerance();
        cracks();
        leastOutOfBoards();
        wish();
        want();
        unlike();
        plan();
        made();
        check.finish();
    }

    private static void due(String call, long got, long want) {
        check.due(call, got, want);
    }

    /** A cane of side k whose cells are rods, row by row. */
    private static int cane(CaneHouse x, int k, int... cells) {
        x.table(k);
        int[] rods = new int[9];
        for (int g = 1; g <= 8; g++) {
            for (int v : cells) {
                if (v == g && rods[g] == 0) {
                    rods[g] = 1 + x.rod(g, 9999);
                }
            }
        }
        for (int i = 0; i < k * k; i++) {
            x.lay(i % k, i / k, rods[cells[i]] - 1, 0);
        }
        return x.bundle(200);
    }

    private static void tolerance() {
        CaneHouse x = new CaneHouse();
        due("at first", x.tolerance(0), 15);
        due("then", x.tolerance(99), 0);
        due("tolerance(100)", x.tolerance(100), BAD);
        due("tolerance(-1)", x.tolerance(-1), BAD);
        due("stays", x.tolerance(15), 99);
    }

    private static void cracks() {
        CaneHouse x = new CaneHouse();
        int c = cane(x, 2, 1, 2, 3, 4);
        // 1 over 3 and 2 over 4 differ by 20, 1 beside 2 and 3 beside 4 by 10; 1 and 4 do not touch.
        due("cracks", x.cracks(c, 0), 2);
        due("least out", x.cracks(c, 1), 2);
        x.tolerance(20);
        due("20 is not more than 20", x.cracks(c, 0), 0);
        due("none out", x.cracks(c, 1), 0);
        x.tolerance(9);
        due("all four pairs", x.cracks(c, 0), 4);
        due("two of four", x.cracks(c, 1), 2);
        x.glass(1, 0, 99);
        x.tolerance(40);
        due("a glass shrinks otherwise", x.cracks(c, 0), 2);
        due("it goes out alone", x.cracks(c, 1), 1);
        due("cracks(c, 2)", x.cracks(c, 2), BAD);
        due("cracks(c, -1)", x.cracks(c, -1), BAD);
        due("cracks(9, 0)", x.cracks(9, 0), BAD);
        due("cracks(-1, 1)", x.cracks(-1, 1), BAD);
        x.drop(c);
        due("of a used up one, too", x.cracks(c, 0), 2);
    }

    private static void leastOutOfBoards() {
        CaneHouse x = new CaneHouse();
        int small = cane(x, 2, 1, 8, 8, 1);
        x.table(4);
        for (int i = 0; i < 16; i++) {
            x.lay(i % 4, i / 4, small, 0);
        }
        int board = x.bundle(1);
        due("a board of 8 times 8 cracks everywhere", x.cracks(board, 0), 112);
        due("half of it has to go", x.cracks(board, 1), 32);
        CaneHouse y = new CaneHouse();
        int ring = cane(y, 3, 1, 5, 1, 5, 1, 5, 1, 5, 1);
        due("all pairs of nine", y.cracks(ring, 0), 12);
        due("the four of one colour go", y.cracks(ring, 1), 4);
        y.cased(ring, 5);
        // Each corner cell of glass 1 now touches two more of glass 5.
        due("cased: pairs", y.cracks(ring, 0), 12 + 8);
        due("cased: the five of glass 1 go", y.cracks(ring, 1), 5);
    }

    private static void wish() {
        CaneHouse x = new CaneHouse();
        x.want(0, 0, 5);
        int[] wrong = {0, 3, 5, 6, 7, 9, 16, -1, -8};
        for (int side : wrong) {
            due("wish(" + side + ")", x.wish(side), BAD);
        }
        due("the old wish stays", x.want(0, 0, 5), 5);
        int[] right = {1, 2, 4, 8};
        for (int side : right) {
            due("wish(" + side + ")", x.wish(side), side);
            due("all air", x.want(side - 1, side - 1, 1), 0);
            due("all air", x.unlike(1), side == 1 ? 1 : 2);
            due("beyond", x.want(side, 0, 1), BAD);
        }
        x.wish(8);
        due("a new one is all air again", x.unlike(1), 1);
    }

    private static void want() {
        CaneHouse x = new CaneHouse();
        x.wish(2);
        due("want", x.want(1, 0, 8), 0);
        due("want again", x.want(1, 0, 0), 8);
        due("want g 9", x.want(1, 0, 9), BAD);
        due("want g -1", x.want(1, 0, -1), BAD);
        due("want x 2", x.want(2, 0, 1), BAD);
        due("want y 2", x.want(0, 2, 1), BAD);
        due("want x -1", x.want(-1, 0, 1), BAD);
        due("want y -1", x.want(0, -1, 1), BAD);
        due("stays", x.want(1, 0, 3), 0);
        due("column, then row", x.want(0, 1, 3), 0);
    }

    private static void fill(CaneHouse x, int... cells) {
        int side = cells.length == 16 ? 4 : 2;
        x.wish(side);
        for (int i = 0; i < cells.length; i++) {
            x.want(i % side, i / side, cells[i]);
        }
    }

    private static void unlike() {
        CaneHouse x = new CaneHouse();
        // Three turns of one picture; the last part is its mirror, which no turn is.
        fill(x, 1, 2, 0, 1,
                0, 3, 3, 2,
                3, 0, 2, 1,
                2, 1, 3, 0);
        due("unlike(1)", x.unlike(1), 4);
        due("unlike(2)", x.unlike(2), 2);
        due("unlike(4)", x.unlike(4), 1);
        due("unlike(8)", x.unlike(8), BAD);
        due("unlike(3)", x.unlike(3), BAD);
        due("unlike(0)", x.unlike(0), BAD);
        due("unlike(-2)", x.unlike(-2), BAD);
        // The same picture off the corner's grid does not stand there.
        fill(x, 0, 0, 0, 0,
                0, 1, 2, 0,
                0, 3, 4, 0,
                0, 0, 0, 0);
        due("parts begin at the corner", x.unlike(2), 4);
    }

    private static void plan() {
        CaneHouse x = new CaneHouse();
        int[] sides = {1, 2, 4, 8};
        for (int side : sides) {
            x.wish(side);
            x.want(0, 0, 3);
            for (int m = 1; m <= 3; m++) {
                due("plan(m, 0)", x.plan(m, 0), side == 1 ? 0 : 1);
                due("plan(m, 1)", x.plan(m, 1), side | 1);
            }
        }
        due("plan(0, 0)", x.plan(0, 0), BAD);
        due("plan(4, 0)", x.plan(4, 0), BAD);
        due("plan(1, 2)", x.plan(1, 2), BAD);
        due("plan(1, -1)", x.plan(1, -1), BAD);
    }

    private static void made() {
        CaneHouse x = new CaneHouse();
        int c = cane(x, 2, 1, 2, 3, 4);
        int[][] turns = {{1, 2, 3, 4}, {3, 1, 4, 2}, {4, 3, 2, 1}, {2, 4, 1, 3}};
        int[][] mirrored = {{2, 1, 4, 3}, {4, 2, 3, 1}, {3, 4, 1, 2}, {1, 3, 2, 4}};
        for (int t = 0; t < 4; t++) {
            fill(x, turns[t]);
            due("made by turn " + t, x.made(c), 1 << t);
            fill(x, mirrored[t]);
            due("made mirrored, by turn " + t, x.made(c), 16 << t);
        }
        due("made(9)", x.made(9), BAD);
        due("made(-1)", x.made(-1), BAD);
        due("of another side", x.made(0), 0);
        x.wish(1);
        x.want(0, 0, 1);
        due("a rod is it by all", x.made(0), 255);
        x.drop(0);
        due("a used up one, too", x.made(0), 255);
        fill(x, 1, 2, 3, 0);
        due("air is no glass", x.made(c), 0);
    }
}
