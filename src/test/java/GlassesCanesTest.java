/** Promises 1 to 15: a new object, glasses, canes, views, the table, the book. */
public final class GlassesCanesTest {
    private static final int BAD = CaneHouse.BAD, STATE = CaneHouse.STATE;
    private static final int FULL = CaneHouse.FULL, NONE = CaneHouse.NONE;
    private static final Check check = new Check("GlassesCanesTest");

    public static void main(String[] args) {
        aNewObject();
        glass();
        rod();
        pull();
        twist();
        cut();
        cased();
        drop();
        about();
        cell();
        view();
        table();
        lay();
        bundle();
        book();
        check.finish();
    }

    private static void due(String call, long got, long want) {
        check.due(call, got, want);
    }

    /** A cane of side 2: row 0 is a b, row 1 is c d. Its number is the fifth that it makes. */
    private static int fourCells(CaneHouse x, int a, int b, int c, int d) {
        x.table(2);
        x.lay(0, 0, x.rod(a, 30), 0);
        x.lay(1, 0, x.rod(b, 30), 0);
        x.lay(0, 1, x.rod(c, 30), 0);
        x.lay(1, 1, x.rod(d, 30), 0);
        return x.bundle(30);
    }

    private static void aNewObject() {
        CaneHouse x = new CaneHouse();
        long[] counts = {0, 0, 2, 0, 0, 0};
        for (int what = 0; what < counts.length; what++) {
            due("new: count(" + what + ")", x.count(what), counts[what]);
        }
        due("new: trace", x.trace(), 0);
        due("new: lay(1, 1)", x.lay(1, 1, NONE, 0), NONE);
        due("new: lay(2, 0)", x.lay(2, 0, NONE, 0), -2);
        due("new: want", x.want(0, 0, 3), 0);
        due("new: want beyond", x.want(1, 0, 3), BAD);
        due("new: see", x.see(0, 0, 3), NONE);
        due("new: see beyond", x.see(0, 1, 3), -2);
        due("new: tolerance", x.tolerance(15), 15);
        due("new: saw", x.saw(1), 1);
        due("new: whose", x.whose(), 0);
        due("new: bad(0)", x.bad(0), 18);
        for (int g = 1; g <= 8; g++) {
            for (int what = 0; what < 3; what++) {
                due("new: book(" + g + ", " + what + ")", x.book(g, what), 0);
            }
        }
        CaneHouse other = new CaneHouse();
        x.rod(1, 5);
        due("two objects share nothing", other.count(0), 0);
    }

    private static void glass() {
        CaneHouse x = new CaneHouse();
        for (int g = 1; g <= 8; g++) {
            due("glass shrink at first", x.glass(g, 0, 99), 10 * g);
            due("glass shrink after", x.glass(g, 0, 0), 99);
            due("glass shrink may be 0", x.glass(g, 0, 7), 0);
            due("glass cost at first", x.glass(g, 1, 9), 1);
            due("glass cost after", x.glass(g, 1, 1), 9);
        }
        due("glass(0, 0, 1)", x.glass(0, 0, 1), BAD);
        due("glass(9, 0, 1)", x.glass(9, 0, 1), BAD);
        due("glass(-1, 1, 1)", x.glass(-1, 1, 1), BAD);
        due("glass(1, 0, -1)", x.glass(1, 0, -1), BAD);
        due("glass(1, 0, 100)", x.glass(1, 0, 100), BAD);
        due("glass(1, 1, 0)", x.glass(1, 1, 0), BAD);
        due("glass(1, 1, 10)", x.glass(1, 1, 10), BAD);
        due("glass(1, 2, 1)", x.glass(1, 2, 1), BAD);
        due("glass(1, -1, 1)", x.glass(1, -1, 1), BAD);
        due("a refused call changes nothing", x.glass(1, 0, 5), 7);
        due("a refused call changes nothing", x.glass(1, 1, 5), 1);
    }

    private static void rod() {
        CaneHouse x = new CaneHouse();
        due("rod(0, 5)", x.rod(0, 5), BAD);
        due("rod(9, 5)", x.rod(9, 5), BAD);
        due("rod(1, 0)", x.rod(1, 0), BAD);
        due("rod(1, 10000)", x.rod(1, 10000), BAD);
        due("no cane from a refused call", x.count(0), 0);
        due("rod(8, 9999)", x.rod(8, 9999), 0);
        int[] told = {1, 9999, 1, 0, 1, 1};
        for (int what = 0; what < told.length; what++) {
            due("rod: about(0, " + what + ")", x.about(0, what), told[what]);
        }
        for (int i = 1; i < 16; i++) {
            due("rod " + i, x.rod(1 + i % 8, 1), i);
        }
        due("the 17th rod", x.rod(1, 1), FULL);
        due("BAD stands before FULL", x.rod(1, 0), BAD);
        due("nothing came of a refused rod", x.book(2, 0), 2 * 4096);
    }

    private static void pull() {
        CaneHouse x = new CaneHouse();
        x.rod(3, 5000);
        due("pull(0, 3)", x.pull(0, 3), BAD);
        due("pull(0, 1)", x.pull(0, 1), BAD);
        due("pull(0, 0)", x.pull(0, 0), BAD);
        due("pull(1, 2)", x.pull(1, 2), BAD);
        due("pull(-1, 2)", x.pull(-1, 2), BAD);
        due("pull by 4 would be too long", x.pull(0, 4), STATE);
        due("STATE changes nothing", x.about(0, 1), 5000);
        due("pull to 9998", x.pull(0, 2), 9998);
        due("fineness 2", x.about(0, 2), 2);
        due("ends drop", x.book(3, 2), 2 * 2048);
        due("pull would be too long", x.pull(0, 2), STATE);
        x.rod(1, 1);
        due("pull below one inch", x.pull(1, 2), STATE);
        due("pull one inch by 4", x.pull(1, 4), 2);
        due("pull two inches by 2", x.pull(1, 2), 2);
        for (int fineness = 16; fineness <= 4096; fineness *= 2) {
            due("pull at 2", x.pull(1, 2), 2);
            due("fineness", x.about(1, 2), fineness);
        }
        due("too fine by 2", x.pull(1, 2), STATE);
        due("too fine by 4", x.pull(1, 4), STATE);
        due("volume of what is left", x.book(1, 1), 2);
        due("volume of what dropped", x.book(1, 2), 4094);
        x.drop(1);
        due("pull of a used up one", x.pull(1, 2), BAD);
        x.rod(5, 100);
        x.twist(2, 7);
        x.pull(2, 2);
        due("pulling leaves the twist", x.about(2, 3), 7);
    }

    private static void twist() {
        CaneHouse x = new CaneHouse();
        x.rod(1, 10);
        due("twist(0, 40)", x.twist(0, 40), 0);
        due("twist(0, 41)", x.twist(0, 41), BAD);
        due("twist(0, -1)", x.twist(0, -1), BAD);
        due("twist(1, 0)", x.twist(1, 0), BAD);
        due("twist(0, 3)", x.twist(0, 3), 40);
        due("twist(0, 0)", x.twist(0, 0), 3);
        x.drop(0);
        due("twist of a used up one", x.twist(0, 1), BAD);
    }

    private static void cut() {
        CaneHouse x = new CaneHouse();
        int c = fourCells(x, 1, 2, 3, 4);
        x.pull(c, 2);
        x.twist(c, 17);
        due("cut of nothing", x.cut(c, 0), BAD);
        due("cut of all", x.cut(c, 58), BAD);
        due("cut(-1, 1)", x.cut(-1, 1), BAD);
        due("cut(5, 1)", x.cut(5, 1), BAD);
        due("cut of a used up one", x.cut(0, 1), BAD);
        due("cut", x.cut(c, 57), 5);
        due("piece length", x.about(5, 1), 57);
        due("rest length", x.about(c, 1), 1);
        due("piece twist is rounded down", x.about(5, 3), 17 * 57 / 58);
        due("rest twist", x.about(c, 3), 17 - 17 * 57 / 58);
        due("piece fineness", x.about(5, 2), 2);
        due("piece side", x.about(5, 0), 2);
        for (int i = 0; i < 4; i++) {
            due("piece cell " + i, x.cell(5, i % 2, i / 2), i + 1);
        }
        due("cut of one inch", x.cut(c, 1), BAD);
        x.twist(c, 0);
        x.cased(c, 8);
        due("the piece has a picture of its own", x.cell(5, 0, 0), 1);
        for (int i = 6; i < 16; i++) {
            due("cut more", x.cut(5, 1), i);
        }
        due("cut when full", x.cut(5, 1), FULL);
        due("BAD stands before FULL", x.cut(5, 47), BAD);
        due("a refused cut takes nothing", x.about(5, 1), 47);
    }

    private static void cased() {
        CaneHouse x = new CaneHouse();
        int c = fourCells(x, 1, 2, 3, 4);
        due("cased(c, 0)", x.cased(c, 0), BAD);
        due("cased(c, 9)", x.cased(c, 9), BAD);
        due("cased(-1, 1)", x.cased(-1, 1), BAD);
        due("cased of a used up one", x.cased(0, 1), BAD);
        x.twist(c, 1);
        due("cased when twisted", x.cased(c, 5), STATE);
        x.twist(c, 0);
        due("cased", x.cased(c, 5), 4);
        int[] rows = {5, 5, 5, 5, 5, 1, 2, 5, 5, 3, 4, 5, 5, 5, 5, 5};
        for (int i = 0; i < 16; i++) {
            due("cased cell " + i, x.cell(c, i % 4, i / 4), rows[i]);
        }
        due("cased: length stays", x.about(c, 1), 30);
        due("cased: fineness stays", x.about(c, 2), 1);
        due("cased: came", x.book(5, 0), 12 * 30 * 4096);
        due("cased twice", x.cased(c, 6), 6);
        due("cased thrice", x.cased(c, 6), 8);
        due("cased came at two rings", x.book(6, 0), (20 + 28) * 30 * 4096);
        due("cased beyond 8", x.cased(c, 6), STATE);
        due("BAD stands before STATE", x.cased(c, 9), BAD);
        x.rod(7, 4);
        due("a rod cased", x.cased(5, 1), 3);
        due("3", x.cased(5, 1), 5);
        due("5", x.cased(5, 1), 7);
        due("7", x.cased(5, 1), STATE);
    }

    private static void drop() {
        CaneHouse x = new CaneHouse();
        x.rod(2, 77);
        due("drop(1)", x.drop(1), BAD);
        due("drop(-1)", x.drop(-1), BAD);
        due("drop(0)", x.drop(0), 77);
        due("drop twice", x.drop(0), BAD);
        due("length after", x.about(0, 1), 0);
        due("drops", x.book(2, 2), 77 * 4096);
        due("no cane has it", x.book(2, 1), 0);
        due("a used up cane counts", x.count(0), 1);
        due("but not as unused", x.count(1), 0);
        due("its picture can be told", x.cell(0, 0, 0), 2);
    }

    private static void about() {
        CaneHouse x = new CaneHouse();
        int c = fourCells(x, 1, 1, 2, 3);
        x.glass(1, 1, 4);
        x.glass(3, 1, 9);
        x.pull(c, 4);
        x.twist(c, 6);
        int[] told = {2, 118, 4, 6, 4, 4 + 4 + 1 + 9};
        for (int what = 0; what < told.length; what++) {
            due("about(c, " + what + ")", x.about(c, what), told[what]);
        }
        due("about(c, 6)", x.about(c, 6), BAD);
        due("about(c, -1)", x.about(c, -1), BAD);
        due("about(5, 0)", x.about(5, 0), BAD);
        due("about(-1, 0)", x.about(-1, 0), BAD);
        due("about a used up one", x.about(0, 5), 4);
    }

    private static void cell() {
        CaneHouse x = new CaneHouse();
        int c = fourCells(x, 1, 2, 3, 4);
        due("cell(c, 1, 0)", x.cell(c, 1, 0), 2);
        due("cell(c, 0, 1)", x.cell(c, 0, 1), 3);
        due("cell(c, 2, 0)", x.cell(c, 2, 0), BAD);
        due("cell(c, 0, 2)", x.cell(c, 0, 2), BAD);
        due("cell(c, -1, 0)", x.cell(c, -1, 0), BAD);
        due("cell(c, 0, -1)", x.cell(c, 0, -1), BAD);
        due("cell(9, 0, 0)", x.cell(9, 0, 0), BAD);
        due("cell(-9, 0, 0)", x.cell(-9, 0, 0), BAD);
    }

    private static void view() {
        CaneHouse x = new CaneHouse();
        int c = fourCells(x, 1, 2, 3, 4);
        x.twist(c, 4);
        // Inches 0 .. 7 are turned by none, 8 .. 14 by one quarter, 15 .. 22 by two, 23 .. 29 by three.
        int[] inch = {0, 7, 8, 14, 15, 22, 23, 29};
        int[] corner = {1, 1, 3, 3, 4, 4, 2, 2};
        int[] other = {2, 2, 1, 1, 3, 3, 4, 4};
        long traced = 0;
        for (int i = 0; i < inch.length; i++) {
            due("straight at " + inch[i], x.view(0, c, 0, 0, inch[i]), 1);
            due("twisted at " + inch[i], x.view(1, c, 0, 0, inch[i]), corner[i]);
            due("mirrored at " + inch[i], x.view(2, c, 0, 0, inch[i]), other[i]);
            traced += 1 + 11 + 111;
            due("trace", x.trace(), traced);
        }
        due("view kind 3", x.view(3, c, 0, 0, 0), BAD);
        due("view kind -1", x.view(-1, c, 0, 0, 0), BAD);
        due("view x", x.view(0, c, 2, 0, 0), BAD);
        due("view y", x.view(2, c, 0, -1, 0), BAD);
        due("view z", x.view(1, c, 0, 0, 30), BAD);
        due("view z below", x.view(1, c, 0, 0, -1), BAD);
        due("view of none", x.view(0, 5, 0, 0, 0), BAD);
        due("view of a used up one", x.view(0, 0, 0, 0, 0), BAD);
        due("refused views leave no trace", x.trace(), traced);
        due("cell leaves no trace", x.cell(c, 0, 0) + x.trace(), 1 + traced);
    }

    private static void table() {
        CaneHouse x = new CaneHouse();
        x.rod(1, 10);
        x.lay(1, 1, 0, 2);
        due("table(1)", x.table(1), BAD);
        due("table(5)", x.table(5), BAD);
        due("a refused table stays", x.lay(1, 1, 0, 2), 0);
        for (int k = 2; k <= 4; k++) {
            due("table(k)", x.table(k), k * k);
            due("count(2)", x.count(2), k);
            due("empty", x.lay(1, 1, 0, 0), NONE);
            due("last place", x.lay(k - 1, k - 1, NONE, 0), k == 2 ? 0 : NONE);
            due("beyond", x.lay(k, 0, 0, 0), -2);
        }
    }

    private static void lay() {
        CaneHouse x = new CaneHouse();
        x.rod(1, 10);
        x.rod(2, 10);
        due("lay", x.lay(0, 1, 1, 3), NONE);
        due("lay over", x.lay(0, 1, 0, 0), 1);
        due("lay none", x.lay(0, 1, NONE, 0), 0);
        due("lay after none", x.lay(0, 1, 1, 0), NONE);
        due("lay(-1, 0)", x.lay(-1, 0, 0, 0), -2);
        due("lay(0, 2)", x.lay(0, 2, 0, 0), -2);
        due("lay cane 2", x.lay(0, 1, 2, 0), -2);
        due("lay cane -1", x.lay(0, 1, -1, 0), -2);
        due("lay turn 4", x.lay(0, 1, 0, 4), -2);
        due("lay turn -1", x.lay(0, 1, 0, -1), -2);
        due("refused ones change nothing", x.lay(0, 1, 1, 0), 1);
        x.drop(0);
        due("a used up cane can be laid", x.lay(1, 1, 0, 0), NONE);
    }

    private static void bundle() {
        bundleTurns();
        bundleStates();
        bundleFull();
        bundleOfNine();
    }

    private static void bundleTurns() {
        CaneHouse x = new CaneHouse();
        int c = fourCells(x, 1, 2, 3, 4);
        for (int i = 0; i < 4; i++) {
            x.lay(i % 2, i / 2, c, i);
        }
        due("bundle too long", x.bundle(8), STATE);
        due("bundle", x.bundle(7), 5);
        due("taken", x.about(c, 1), 2);
        int[] rows = {
            1, 2, 3, 1,
            3, 4, 4, 2,
            4, 3, 2, 4,
            2, 1, 1, 3};
        for (int i = 0; i < 16; i++) {
            due("bundled cell " + i, x.cell(5, i % 4, i / 4), rows[i]);
        }
        int[] told = {4, 7, 1, 0, 16, 16};
        for (int what = 0; what < told.length; what++) {
            due("bundled about " + what, x.about(5, what), told[what]);
        }
        due("the table stays", x.lay(0, 0, c, 0), c);
    }

    private static void bundleStates() {
        CaneHouse x = new CaneHouse();
        x.rod(1, 100);
        x.rod(2, 25);
        due("bundle(0)", x.bundle(0), BAD);
        due("bundle(10000)", x.bundle(10000), BAD);
        due("an empty table", x.bundle(1), STATE);
        for (int i = 0; i < 3; i++) {
            x.lay(i % 2, i / 2, 0, 0);
        }
        due("one place is empty", x.bundle(1), STATE);
        x.lay(1, 1, 1, 0);
        due("one is too short", x.bundle(26), STATE);
        x.twist(1, 1);
        due("one is twisted", x.bundle(25), STATE);
        x.twist(1, 0);
        x.pull(1, 2);
        due("one is finer", x.bundle(1), STATE);
        x.rod(3, 25);
        x.cased(2, 1);
        x.lay(1, 1, 2, 0);
        due("one is wider", x.bundle(1), STATE);
        for (int i = 0; i < 4; i++) {
            x.lay(i % 2, i / 2, 2, 0);
        }
        due("two times three", x.bundle(1), 3);
        x.table(3);
        for (int i = 0; i < 9; i++) {
            x.lay(i % 3, i / 3, 2, 0);
        }
        due("three times three is too wide", x.bundle(1), STATE);
        due("BAD stands before STATE", x.bundle(-1), BAD);
        x.table(2);
        x.rod(1, 9);
        x.rod(2, 9);
        for (int i = 0; i < 4; i++) {
            x.lay(i % 2, i / 2, 4 + i % 2, 0);
        }
        due("as long as it goes", x.bundle(4), 6);
        x.drop(4);
        due("one is used up", x.bundle(1), STATE);
    }

    private static void bundleFull() {
        CaneHouse x = new CaneHouse();
        for (int i = 0; i < 16; i++) {
            x.rod(1, 10);
        }
        for (int i = 0; i < 4; i++) {
            x.lay(i % 2, i / 2, 0, 0);
        }
        due("STATE stands before FULL", x.bundle(3), STATE);
        due("full", x.bundle(2), FULL);
        due("nothing is taken", x.about(0, 1), 10);
    }

    private static void bundleOfNine() {
        CaneHouse x = new CaneHouse();
        x.table(3);
        for (int i = 0; i < 9; i++) {
            x.rod(1 + i % 8, 5);
            x.lay(i % 3, i / 3, i, i % 4);
        }
        due("nine rods", x.bundle(5), 9);
        for (int i = 0; i < 9; i++) {
            due("cell of nine", x.cell(9, i % 3, i / 3), 1 + i % 8);
            due("all used up", x.about(i, 1), 0);
        }
        x.table(4);
        x.rod(6, 16);
        for (int i = 0; i < 16; i++) {
            x.lay(i % 4, i / 4, 10, 0);
        }
        due("sixteen places of one rod", x.bundle(1), 11);
        due("its side", x.about(11, 0), 4);
    }

    private static void book() {
        CaneHouse x = new CaneHouse();
        due("book(0, 0)", x.book(0, 0), -1);
        due("book(9, 1)", x.book(9, 1), -1);
        due("book(1, 3)", x.book(1, 3), -1);
        due("book(1, -1)", x.book(1, -1), -1);
        int c = fourCells(x, 1, 1, 2, 3);
        x.pull(c, 2);
        x.cased(c, 1);
        x.pull(c, 4);
        x.cut(c, 100);
        x.drop(5);
        for (int g = 1; g <= 3; g++) {
            due("glass in is cane and drops", x.book(g, 1) + x.book(g, 2), x.book(g, 0));
        }
        // 58 inches at fineness 2, then 230 at 8, of which 100 are thrown away.
        due("came", x.book(1, 0), 60 * 4096 + 12 * 58 * 2048);
        due("in canes", x.book(1, 1), 14 * 130 * 512);
        due("dropped", x.book(1, 2), 2 * 2 * 2048 + 14 * 2 * 512 + 14 * 100 * 512);
        CaneHouse much = new CaneHouse();
        much.rod(8, 9999);
        much.cased(0, 8);
        much.cased(0, 8);
        much.cased(0, 8);
        due("more than an int", much.book(8, 0), 49L * 9999 * 4096);
        due("more than an int", much.book(8, 1), 49L * 9999 * 4096);
        much.drop(0);
        due("more than an int", much.book(8, 2), 49L * 9999 * 4096);
    }
}
