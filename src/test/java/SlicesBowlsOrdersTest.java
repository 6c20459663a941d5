/** Promises 23 to 32: slices, bowls, orders. */
public final class SlicesBowlsOrdersTest {
    private static final int BAD = CaneHouse.BAD, FULL = CaneHouse.FULL, NONE = CaneHouse.NONE;
    private static final Check check = new Check("SlicesBowlsOrdersTest");

    public static void main(String[] args) {
        slice();
        see();
        fits();
        whose();
        two();
        bowl();
        bowlThereAndBack();
        bowlOfNearlyEqualColumns();
        bowlModulo();
        order();
        clear();
        saw();
        sticks();
        check.finish();
    }

    private static void due(String call, long got, long want) {
        check.due(call, got, want);
    }

    /** A cane of side 2 of four rods of its own, row by row. */
    private static int fourCells(CaneHouse x, int a, int b, int c, int d) {
        int[] cells = {a, b, c, d};
        x.table(2);
        for (int i = 0; i < 4; i++) {
            x.lay(i % 2, i / 2, x.rod(cells[i], 30), 0);
        }
        return x.bundle(30);
    }

    private static void slice() {
        CaneHouse x = new CaneHouse();
        x.see(0, 0, 4);
        due("slice(0)", x.slice(0), BAD);
        due("slice(9)", x.slice(9), BAD);
        due("slice(-1)", x.slice(-1), BAD);
        due("the old one stays", x.see(0, 0, 4), 4);
        for (int side = 1; side <= 8; side++) {
            due("slice", x.slice(side), side);
            due("nothing seen", x.count(3), 0);
            due("not seen", x.see(side - 1, side - 1, 0), NONE);
            due("beyond", x.see(side, 0, 1), -2);
        }
    }

    private static void see() {
        CaneHouse x = new CaneHouse();
        x.slice(3);
        due("see", x.see(2, 1, 8), NONE);
        due("see air", x.see(2, 1, 0), 8);
        due("one is seen", x.count(3), 1);
        due("see nothing", x.see(2, 1, NONE), 0);
        due("none is seen", x.count(3), 0);
        due("see 9", x.see(2, 1, 9), -2);
        due("see -1", x.see(2, 1, -1), -2);
        due("see x 3", x.see(3, 1, 1), -2);
        due("see y 3", x.see(1, 3, 1), -2);
        due("see x -1", x.see(-1, 1, 1), -2);
        due("see y -1", x.see(1, -1, 1), -2);
        due("stays", x.see(2, 1, 1), NONE);
    }

    private static void fits() {
        CaneHouse x = new CaneHouse();
        int c = fourCells(x, 1, 2, 3, 4);
        due("not as wide", x.fits(c), 0);
        due("a rod by all", x.fits(0), 255);
        due("fits(9)", x.fits(9), BAD);
        due("fits(-1)", x.fits(-1), BAD);
        x.slice(2);
        due("nothing seen", x.fits(c), 255);
        x.see(0, 0, 3);
        // Turned once, and mirrored and turned twice, 3 stands in the corner.
        due("one seen", x.fits(c), 1 << 1 | 16 << 2);
        x.see(1, 0, 1);
        due("two seen", x.fits(c), 1 << 1);
        x.see(1, 0, 4);
        due("two seen, mirrored", x.fits(c), 16 << 2);
        x.see(1, 0, 0);
        due("air seen", x.fits(c), 0);
    }

    private static void whose() {
        CaneHouse x = new CaneHouse();
        due("no canes", x.whose(), 0);
        int c = fourCells(x, 1, 2, 3, 4);
        int d = fourCells(x, 2, 1, 4, 3);
        due("rods, used up ones too", x.whose(), 0b0111101111);
        x.see(0, 0, 2);
        due("rods of glass 2", x.whose(), 1 << 1 | 1 << 5);
        x.slice(2);
        x.see(0, 0, 1);
        x.see(1, 0, 2);
        due("one is the other mirrored", x.whose(), 1 << c | 1 << d);
        x.see(0, 1, 1);
        due("none", x.whose(), 0);
    }

    private static void two() {
        CaneHouse x = new CaneHouse();
        int a = fourCells(x, 1, 2, 3, 4);
        int b = fourCells(x, 5, 6, 7, 8);
        due("two(a, 10)", x.two(a, 10), BAD);
        due("two(-1, a)", x.two(-1, a), BAD);
        due("not as wide", x.two(a, b), 0);
        due("of one cell", x.two(0, 1), 0);
        x.slice(2);
        due("one of them not as wide", x.two(a, 0), 0);
        due("one of them not as wide", x.two(0, a), 0);
        due("nothing seen", x.two(a, b), 16);
        x.see(0, 0, 1);
        x.see(0, 1, 3);
        due("the left column of the first", x.two(a, b), 4);
        due("not of the second", x.two(b, a), 0);
        x.see(1, 0, 8);
        due("a cell of the second", x.two(a, b), 1);
        x.see(0, 1, 2);
        due("a mirrored column does not count", x.two(a, b), 0);
        CaneHouse y = new CaneHouse();
        y.rod(1, 9);
        y.cased(0, 2);
        y.slice(3);
        due("two seams, sixteen turns", y.two(0, 0), 32);
        y.see(1, 1, 1);
        due("still", y.two(0, 0), 32);
        y.see(1, 1, 2);
        due("none", y.two(0, 0), 0);
    }

    private static void bowl() {
        CaneHouse x = new CaneHouse();
        due("bowl(1, 1, 0)", x.bowl(1, 1, 0), BAD);
        due("bowl(13, 1, 0)", x.bowl(13, 1, 0), BAD);
        due("bowl(2, 0, 0)", x.bowl(2, 0, 0), BAD);
        due("bowl(2, 9, 0)", x.bowl(2, 9, 0), BAD);
        due("bowl(2, 1, 2)", x.bowl(2, 1, 2), BAD);
        due("bowl(2, 1, -1)", x.bowl(2, 1, -1), BAD);
        due("no canes: ways", x.bowl(2, 1, 0), 0);
        due("no canes: cheapest", x.bowl(2, 1, 1), NONE);
        int c = fourCells(x, 1, 2, 1, 2);
        due("used up rods are no slices", x.bowl(2, 1, 0), 0);
        // Turned by none: 1 1 to 2 2; by two: 2 2 to 1 1; by one: 1 2 to itself; by three: 2 1 to itself.
        due("two slices", x.bowl(2, 2, 0), 2 + 1 + 1);
        due("three slices", x.bowl(3, 2, 0), 1 + 1);
        due("four slices", x.bowl(4, 2, 0), 2 + 1 + 1);
        x.glass(1, 1, 3);
        due("cheapest", x.bowl(5, 2, 1), 5 * 8);
        due("another side", x.bowl(5, 3, 1), NONE);
        int d = fourCells(x, 3, 3, 3, 3);
        due("a cheaper one, alone", x.bowl(5, 2, 1), 5 * 4);
        due("ways of both", x.bowl(2, 2, 0), 4 + 16);
        x.drop(d);
        due("used up", x.bowl(5, 2, 1), 5 * 8);
        x.drop(c);
        due("none left", x.bowl(5, 2, 1), NONE);
        int e = fourCells(x, 1, 2, 3, 4);
        due("no column meets another", x.bowl(2, 2, 0), 0);
        due("no bowl", x.bowl(12, 2, 1), NONE);
        due("e", e, 14);
    }

    /** A picture that meets itself only if it is turned by two, so that no turn can be missed. */
    private static void bowlThereAndBack() {
        CaneHouse x = new CaneHouse();
        int[] cells = {1, 3, 2, 1, 4, 2, 1, 5, 2};
        x.table(3);
        for (int g = 1; g <= 5; g++) {
            x.rod(g, 30);
        }
        for (int i = 0; i < 9; i++) {
            x.lay(i % 3, i / 3, cells[i] - 1, 0);
        }
        due("its number", x.bundle(10), 5);
        for (int n = 2; n <= 12; n++) {
            due("ways there and back", x.bowl(n, 3, 0), n % 2 == 0 ? 2 : 0);
            due("cheapest there and back", x.bowl(n, 3, 1), n % 2 == 0 ? 9 * n : NONE);
        }
    }

    private static void bowlOfNearlyEqualColumns() {
        CaneHouse x = new CaneHouse();
        fourCells(x, 2, 3, 8, 8);
        due("2 over 8 is not 3 over 8", x.bowl(2, 2, 0), 0);
        CaneHouse y = new CaneHouse();
        int corner = fourCells(y, 2, 1, 1, 1);
        int plain = fourCells(y, 1, 1, 1, 1);
        y.table(4);
        for (int i = 0; i < 16; i++) {
            y.lay(i % 4, i / 4, i == 0 ? corner : plain, 0);
        }
        due("its number", y.bundle(2), 10);
        // The corner cell is in the first column or in the last one, at the top or at the bottom.
        due("two of side 8", y.bowl(2, 8, 0), 4);
        due("three of side 8", y.bowl(3, 8, 0), 0);
        due("cheapest of side 8", y.bowl(4, 8, 1), 256);
    }

    private static void bowlModulo() {
        CaneHouse x = new CaneHouse();
        for (int i = 0; i < 16; i++) {
            x.rod(7, 1);
        }
        long ways = 1;
        for (int n = 1; n <= 12; n++) {
            ways = ways * 64 % 1000000007L;
            if (n >= 2) {
                due("64 to the power " + n, x.bowl(n, 1, 0), ways);
                due("cheapest", x.bowl(n, 1, 1), n);
            }
        }
        x.glass(7, 1, 9);
        due("dearest", x.bowl(12, 1, 1), 108);
    }

    private static void order() {
        CaneHouse x = new CaneHouse();
        due("order(0)", x.order(0), BAD);
        due("order(100)", x.order(100), BAD);
        for (int i = 1; i <= 8; i++) {
            due("order", x.order(i == 1 ? 99 : 1), i);
        }
        due("the ninth", x.order(1), FULL);
        due("BAD stands before FULL", x.order(0), BAD);
        due("count", x.count(4), 8);
    }

    private static void clear() {
        CaneHouse x = new CaneHouse();
        due("clear", x.clear(), 0);
        x.order(5);
        x.order(6);
        due("clear", x.clear(), 2);
        due("clear", x.clear(), 0);
        due("count", x.count(4), 0);
        due("sticks", x.sticks(1), 0);
    }

    private static void saw() {
        CaneHouse x = new CaneHouse();
        due("saw(0)", x.saw(0), 1);
        due("saw(3)", x.saw(3), 0);
        due("saw(4)", x.saw(4), BAD);
        due("saw(-1)", x.saw(-1), BAD);
        due("saw(1)", x.saw(1), 3);
    }

    private static void sticks() {
        CaneHouse x = new CaneHouse();
        due("sticks(0)", x.sticks(0), BAD);
        due("sticks(301)", x.sticks(301), BAD);
        due("no orders", x.sticks(300), 0);
        x.saw(2);
        x.order(10);
        int[] one = {NONE, 1, NONE, 1, 1};
        for (int i = 0; i < one.length; i++) {
            due("one order of a stick of " + (9 + i), x.sticks(9 + i), one[i]);
        }
        x.order(10);
        // 10 and 2 and 10 goes out even at 22; 23 has one inch left, too little for the saw.
        int[] two = {2, 2, 1, 2, 1};
        for (int i = 0; i < two.length; i++) {
            due("two orders of sticks of " + (20 + i), x.sticks(20 + i), two[i]);
        }
        x.clear();
        x.saw(0);
        int[] inches = {50, 50, 40, 30, 30, 25, 25, 50};
        for (int v : inches) {
            x.order(v);
        }
        due("all go out even", x.sticks(100), 3);
        due("both go out even", x.sticks(150), 2);
        due("25 and 25 share one", x.sticks(50), 7);
        due("too short", x.sticks(49), NONE);
        due("in one", x.sticks(300), 1);
        x.saw(1);
        due("the saw takes seven inches", x.sticks(300), 2);
    }
}
