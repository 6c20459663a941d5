/** Promises 1 to 15 at their edges: a test for each sentence of the document that names one. */
public final class GlassesCanesEdgesTest {
    private static final int BAD = CaneHouse.BAD, STATE = CaneHouse.STATE;
    private static final int FULL = CaneHouse.FULL, NONE = CaneHouse.NONE;
    private static final Check check = new Check("GlassesCanesEdgesTest");
    private static final Edges edges = new Edges(check);

    public static void main(String[] args) {
        newObject();
        newObjectHasNoCanes();
        glass();
        glassStartsAndKeepsApart();
        rod();
        rodsAreSixteen();
        usedUpRodsCount();
        pull();
        pullStates();
        pullOrder();
        pullEnds();
        twist();
        cut();
        cutRoundsDown();
        cutIsFull();
        cased();
        casedStates();
        drop();
        about();
        cell();
        view();
        viewWrapsAround();
        viewTwistRoundsDown();
        table();
        lay();
        bundleLength();
        bundleInchesForEachPlace();
        bundleSide();
        bundlePlaces();
        bundleIsFull();
        bundleOrder();
        bundleKeeps();
        book();
        bookVolumes();
        check.finish();
    }

    private static void due(String call, long got, long want) {
        check.due(call, got, want);
    }

    // ---- Promise 1: no canes, an empty table of 2 times 2, a wish and a slice of one cell

    private static void newObject() {
        Edges.State fresh = CaneHouse::new;
        for (int i = 0; i < 4; i++) {
            int x = i % 2;
            int y = i / 2;
            edges.taken("new: an empty place", fresh, h -> h.lay(x, y, NONE, 0), NONE);
        }
        edges.range("new: lay(v, 0)", fresh, (h, v) -> h.lay(v, 0, NONE, 0), 0, 1, -2);
        edges.range("new: lay(0, v)", fresh, (h, v) -> h.lay(0, v, NONE, 0), 0, 1, -2);
        edges.range("new: want(v, 0)", fresh, (h, v) -> h.want(v, 0, 5), 0, 0, BAD);
        edges.range("new: want(0, v)", fresh, (h, v) -> h.want(0, v, 5), 0, 0, BAD);
        edges.taken("new: the wish is air", fresh, h -> h.want(0, 0, 5), 0);
        edges.range("new: see(v, 0)", fresh, (h, v) -> h.see(v, 0, 5), 0, 0, -2);
        edges.range("new: see(0, v)", fresh, (h, v) -> h.see(0, v, 5), 0, 0, -2);
        edges.taken("new: the slice is not seen", fresh, h -> h.see(0, 0, 5), NONE);
        edges.taken("new: nothing is counted as seen", fresh, h -> h.count(3), 0);
        edges.refused("new: the table is empty", fresh, h -> h.bundle(1), STATE);
    }

    private static void newObjectHasNoCanes() {
        Edges.State fresh = CaneHouse::new;
        int[] numbers = {0, -1, 1, 15, 16, NONE};
        for (int cane : numbers) {
            edges.refused("no canes: pull", fresh, h -> h.pull(cane, 2), BAD);
            edges.refused("no canes: twist", fresh, h -> h.twist(cane, 0), BAD);
            edges.refused("no canes: cut", fresh, h -> h.cut(cane, 1), BAD);
            edges.refused("no canes: cased", fresh, h -> h.cased(cane, 1), BAD);
            edges.refused("no canes: drop", fresh, h -> h.drop(cane), BAD);
            edges.refused("no canes: about", fresh, h -> h.about(cane, 0), BAD);
            edges.refused("no canes: cell", fresh, h -> h.cell(cane, 0, 0), BAD);
            edges.refused("no canes: view", fresh, h -> h.view(0, cane, 0, 0, 0), BAD);
            edges.refused("no canes: cracks", fresh, h -> h.cracks(cane, 0), BAD);
            edges.refused("no canes: made", fresh, h -> h.made(cane), BAD);
            edges.refused("no canes: fits", fresh, h -> h.fits(cane), BAD);
            edges.refused("no canes: two", fresh, h -> h.two(cane, cane), BAD);
        }
        edges.refused("no canes: lay", fresh, h -> h.lay(0, 0, 0, 0), -2);
        edges.taken("no canes: whose", fresh, CaneHouse::whose, 0);
    }

    // ---- Promise 2: glasses 1 .. 8; a shrink 0 .. 99, 10 times its number at first; a cost 1 .. 9, 1 at first

    private static void glass() {
        edges.range("glass(v, 0, 50)", Houses::busy, (h, v) -> h.glass(v, 0, 50), 1, 8, BAD);
        edges.range("glass(v, 1, 5)", Houses::busy, (h, v) -> h.glass(v, 1, 5), 1, 8, BAD);
        edges.range("glass(4, v, 5)", Houses::busy, (h, v) -> h.glass(4, v, 5), 0, 1, BAD);
        edges.range("glass(4, 0, v)", Houses::busy, (h, v) -> h.glass(4, 0, v), 0, 99, BAD);
        edges.range("glass(4, 1, v)", Houses::busy, (h, v) -> h.glass(4, 1, v), 1, 9, BAD);
        edges.refused("a shrink's number is no cost", Houses::busy, h -> h.glass(4, 1, 99), BAD);
        edges.refused("a cost has no 0 as a shrink has", Houses::busy, h -> h.glass(4, 1, 0), BAD);
    }

    private static void glassStartsAndKeepsApart() {
        CaneHouse x = new CaneHouse();
        for (int g = 1; g <= 8; g++) {
            due("shrink at first", x.glass(g, 0, 99), 10 * g);
            due("cost at first", x.glass(g, 1, 9), 1);
        }
        for (int g = 1; g <= 8; g++) {
            due("the last shrink that is taken", x.glass(g, 0, 0), 99);
            due("the last cost that is taken", x.glass(g, 1, 1), 9);
            due("the first shrink that is taken", x.glass(g, 0, 10), 0);
            due("the first cost that is taken", x.glass(g, 1, 2), 1);
        }
    }

    // ---- Promise 3: LENGTH 1 .. 9999; 16 canes at most

    private static void rod() {
        edges.range("rod(v, 5)", Houses::busy, (h, v) -> h.rod(v, 5), 1, 8, BAD);
        edges.range("rod(2, v)", Houses::busy, (h, v) -> h.rod(2, v), 1, 9999, BAD);
        int[] lengths = {1, 9999};
        for (int length : lengths) {
            CaneHouse x = new CaneHouse();
            due("the first number", x.rod(8, length), 0);
            int[] told = {1, length, 1, 0, 1, 1};
            for (int what = 0; what < told.length; what++) {
                due("a rod of " + length + ", about " + what, x.about(0, what), told[what]);
            }
            due("its cell", x.cell(0, 0, 0), 8);
            due("it is not used up", x.count(1), 1);
        }
    }

    private static void rodsAreSixteen() {
        edges.taken("the sixteenth", () -> Houses.rods(15, 9), h -> h.rod(3, 7), 15);
        edges.refused("the seventeenth", () -> Houses.rods(16, 9), h -> h.rod(3, 7), FULL);
        edges.refused("BAD before FULL: glass 0", () -> Houses.rods(16, 9), h -> h.rod(0, 7), BAD);
        edges.refused("BAD before FULL: glass 9", () -> Houses.rods(16, 9), h -> h.rod(9, 7), BAD);
        edges.refused("BAD before FULL: no inch", () -> Houses.rods(16, 9), h -> h.rod(3, 0), BAD);
        edges.refused("BAD before FULL: 10000 inches", () -> Houses.rods(16, 9), h -> h.rod(3, 10000), BAD);
    }

    private static void usedUpRodsCount() {
        Edges.State allDropped = () -> {
            CaneHouse x = Houses.rods(16, 9);
            for (int i = 0; i < 16; i++) {
                x.drop(i);
            }
            return x;
        };
        edges.taken("all are used up", allDropped, h -> h.count(1), 0);
        edges.refused("used up canes are canes", allDropped, h -> h.rod(1, 1), FULL);
    }

    // ---- Promise 4: by 2 or 4; STATE: LENGTH above 9999, below 1, FINENESS above 4096

    private static void pull() {
        edges.range("pull(v, 2)", Houses::busy, (h, v) -> h.pull(v, 2), 0, 6, BAD);
        int[] wrong = {Integer.MIN_VALUE, -4, -2, -1, 0, 1, 3, 5, 6, 8, 16, Integer.MAX_VALUE};
        for (int by : wrong) {
            edges.refused("pull(4, " + by + ")", Houses::busy, h -> h.pull(4, by), BAD);
        }
        edges.taken("pull(4, 2)", Houses::busy, h -> h.pull(4, 2), 58);
        edges.taken("pull(4, 4)", Houses::busy, h -> h.pull(4, 4), 118);
        edges.refused("pull of what was thrown away", Houses::withUsedUp, h -> h.pull(1, 2), BAD);
        edges.refused("pull of what a bundle used up", Houses::withUsedUp, h -> h.pull(2, 4), BAD);
    }

    private static void pullStates() {
        edges.taken("5000 by 2 is not above 9999", () -> Houses.rods(1, 5000), h -> h.pull(0, 2), 9998);
        edges.refused("5001 by 2 would be 10000", () -> Houses.rods(1, 5001), h -> h.pull(0, 2), STATE);
        edges.taken("2500 by 4 is not above 9999", () -> Houses.rods(1, 2500), h -> h.pull(0, 4), 9998);
        edges.refused("2501 by 4 would be 10002", () -> Houses.rods(1, 2501), h -> h.pull(0, 4), STATE);
        edges.refused("9999 by 4", () -> Houses.rods(1, 9999), h -> h.pull(0, 4), STATE);
        edges.refused("1 by 2 would be 0", () -> Houses.rods(1, 1), h -> h.pull(0, 2), STATE);
        edges.taken("1 by 4", () -> Houses.rods(1, 1), h -> h.pull(0, 4), 2);
        edges.taken("2 by 2", () -> Houses.rods(1, 2), h -> h.pull(0, 2), 2);
        edges.taken("FINENESS 1024 by 4 is 4096", () -> ofFineness(10), h -> h.pull(0, 4), 6);
        edges.refused("FINENESS 2048 by 4 would be 8192", () -> ofFineness(11), h -> h.pull(0, 4), STATE);
        edges.taken("FINENESS 2048 by 2 is 4096", () -> ofFineness(11), h -> h.pull(0, 2), 2);
        edges.refused("FINENESS 4096 by 2", () -> ofFineness(12), h -> h.pull(0, 2), STATE);
        edges.refused("FINENESS 4096 by 4", () -> ofFineness(12), h -> h.pull(0, 4), STATE);
        CaneHouse x = Houses.rods(1, 2);
        for (int fineness = 1; fineness <= 4096; fineness *= 2) {
            due("FINENESS 1, 2, 4, .. 4096", x.about(0, 2), fineness);
            due("pulled at 2 inches", x.pull(0, 2), fineness == 4096 ? STATE : 2);
        }
    }

    /** A rod of 2 inches, pulled by 2 so many times: it stays 2 inches long. */
    private static CaneHouse ofFineness(int times) {
        CaneHouse x = Houses.rods(1, 2);
        for (int i = 0; i < times; i++) {
            x.pull(0, 2);
        }
        return x;
    }

    private static void pullOrder() {
        edges.refused("BAD before STATE: by 3, too long", () -> Houses.rods(1, 9999), h -> h.pull(0, 3), BAD);
        edges.refused("BAD before STATE: by 1, too short", () -> Houses.rods(1, 1), h -> h.pull(0, 1), BAD);
        edges.refused("BAD before STATE: by 0, too fine", () -> ofFineness(12), h -> h.pull(0, 0), BAD);
    }

    private static void pullEnds() {
        CaneHouse x = Houses.rods(1, 1);
        due("two inches are left of four", x.pull(0, 4), 2);
        due("two inches of FINENESS 4 dropped", x.book(1, 2), 2 * 1024);
        due("as much is left", x.book(1, 1), 2 * 1024);
        CaneHouse y = ofFineness(12);
        due("of FINENESS 4096 an inch is one 4096th", y.book(1, 1), 2);
        due("all else dropped", y.book(1, 2), 2 * 4096 - 2);
        due("what came is as it was", y.book(1, 0), 2 * 4096);
        CaneHouse z = Houses.rods(1, 10);
        z.twist(0, 40);
        z.pull(0, 2);
        due("the TWIST is told anew by twist() alone", z.about(0, 3), 40);
    }

    // ---- Promise 5: a TWIST 0 .. 40

    private static void twist() {
        edges.range("twist(v, 5)", Houses::busy, (h, v) -> h.twist(v, 5), 0, 6, BAD);
        edges.range("twist(5, v)", Houses::busy, (h, v) -> h.twist(5, v), 0, 40, BAD);
        edges.refused("twist of what was thrown away", Houses::withUsedUp, h -> h.twist(1, 1), BAD);
        edges.refused("twist of what a bundle used up", Houses::withUsedUp, h -> h.twist(2, 1), BAD);
        CaneHouse x = Houses.rods(1, 1);
        due("no twist at first", x.twist(0, 40), 0);
        due("the last that is taken", x.twist(0, 0), 40);
        due("the first that is taken", x.twist(0, 7), 0);
    }

    // ---- Promise 6: a piece of 1 .. LENGTH - 1 inches; its TWIST is rounded down; 16 canes at most

    private static void cut() {
        edges.range("cut(v, 1)", Houses::busy, (h, v) -> h.cut(v, 1), 0, 6, BAD);
        edges.range("cut(4, v)", Houses::busy, (h, v) -> h.cut(4, v), 1, 29, BAD);
        edges.range("cut of two inches", () -> Houses.rods(1, 2), (h, v) -> h.cut(0, v), 1, 1, BAD);
        edges.range("cut of 9999 inches", () -> Houses.rods(1, 9999), (h, v) -> h.cut(0, v), 1, 9998, BAD);
        edges.refused("cut of one inch: all", () -> Houses.rods(1, 1), h -> h.cut(0, 1), BAD);
        edges.refused("cut of one inch: nothing", () -> Houses.rods(1, 1), h -> h.cut(0, 0), BAD);
        edges.refused("cut of what was thrown away", Houses::withUsedUp, h -> h.cut(1, 1), BAD);
        edges.refused("cut of what a bundle used up", Houses::withUsedUp, h -> h.cut(2, 1), BAD);
        edges.refused("nothing of what was used up", Houses::withUsedUp, h -> h.cut(2, 0), BAD);
        edges.refused("less of what was used up", Houses::withUsedUp, h -> h.cut(2, -1), BAD);
        int[] pieces = {1, 9998};
        for (int piece : pieces) {
            CaneHouse x = Houses.rods(1, 9999);
            due("the piece's number", x.cut(0, piece), 1);
            due("the piece's LENGTH", x.about(1, 1), piece);
            due("what is left", x.about(0, 1), 9999 - piece);
            due("no glass came", x.book(1, 0), 9999L * 4096);
            due("none dropped", x.book(1, 2), 0);
        }
    }

    private static void cutRoundsDown() {
        // LENGTH, TWIST, piece, the piece's TWIST.
        int[][] rows = {
            {2, 1, 1, 0}, {2, 40, 1, 20}, {3, 2, 1, 0}, {3, 2, 2, 1}, {3, 40, 2, 26}, {9999, 40, 9998, 39},
            {9999, 40, 1, 0}, {10, 10, 9, 9}, {10, 0, 9, 0}, {10, 9, 9, 8}, {10, 1, 9, 0}, {9999, 40, 250, 1},
            {9999, 40, 249, 0}};
        for (int[] row : rows) {
            CaneHouse x = Houses.rods(1, row[0]);
            x.twist(0, row[1]);
            x.cut(0, row[2]);
            String call = "TWIST " + row[1] + " of " + row[0] + " inches, cut " + row[2];
            due(call + ", the piece", x.about(1, 3), row[3]);
            due(call + ", the rest", x.about(0, 3), row[1] - row[3]);
        }
    }

    private static void cutIsFull() {
        edges.taken("the sixteenth", () -> Houses.rods(15, 9), h -> h.cut(3, 8), 15);
        edges.refused("the seventeenth", () -> Houses.rods(16, 9), h -> h.cut(3, 8), FULL);
        edges.refused("BAD before FULL: all of it", () -> Houses.rods(16, 9), h -> h.cut(3, 9), BAD);
        edges.refused("BAD before FULL: nothing", () -> Houses.rods(16, 9), h -> h.cut(3, 0), BAD);
        edges.refused("BAD before FULL: no such cane", () -> Houses.rods(16, 9), h -> h.cut(16, 1), BAD);
    }

    // ---- Promise 7: STATE: SIDE above 8, a TWIST

    private static void cased() {
        edges.range("cased(v, 5)", () -> Houses.rods(3, 9), (h, v) -> h.cased(v, 5), 0, 2, BAD);
        edges.range("cased(4, v)", Houses::busy, (h, v) -> h.cased(4, v), 1, 8, BAD);
        edges.refused("cased what was thrown away", Houses::withUsedUp, h -> h.cased(1, 1), BAD);
        edges.refused("cased what a bundle used up", Houses::withUsedUp, h -> h.cased(2, 1), BAD);
        for (int side = 1; side <= 6; side++) {
            int before = side;
            int cane = 1 - side % 2;
            edges.taken("SIDE " + side, () -> Houses.ofSide(before, 1), h -> h.cased(cane, 2), side + 2);
            CaneHouse x = Houses.ofSide(side, 1);
            int length = x.about(cane, 1);
            x.cased(cane, 2);
            due("a ring came", x.book(2, 0), 4096L * length * (4 * side + 4));
            due("as long", x.about(cane, 1), length);
            for (int i = 0; i < (side + 2) * (side + 2); i++) {
                int column = i % (side + 2);
                int row = i / (side + 2);
                boolean inside = column >= 1 && column <= side && row >= 1 && row <= side;
                due("ring or picture", x.cell(cane, column, row), inside ? 1 : 2);
            }
        }
    }

    private static void casedStates() {
        edges.refused("SIDE 7 would be 9", () -> Houses.ofSide(7, 1), h -> h.cased(0, 2), STATE);
        edges.refused("SIDE 8 would be 10", () -> Houses.ofSide(8, 1), h -> h.cased(1, 2), STATE);
        edges.refused("TWIST 1", () -> twisted(1), h -> h.cased(0, 2), STATE);
        edges.refused("TWIST 40", () -> twisted(40), h -> h.cased(0, 2), STATE);
        edges.taken("TWIST 0", () -> twisted(0), h -> h.cased(0, 2), 3);
        edges.refused("BAD before STATE: glass 0, TWIST", () -> twisted(1), h -> h.cased(0, 0), BAD);
        edges.refused("BAD before STATE: glass 9, SIDE 7", () -> Houses.ofSide(7, 1), h -> h.cased(0, 9), BAD);
        edges.refused("BAD before STATE: used up, TWIST", Houses::withUsedUp, h -> h.cased(1, 2), BAD);
    }

    private static CaneHouse twisted(int twist) {
        CaneHouse x = Houses.rods(1, 50);
        x.twist(0, twist);
        return x;
    }

    // ---- Promise 8: all its LENGTH becomes drops; BAD: USED UP, too

    private static void drop() {
        edges.range("drop(v)", Houses::busy, (h, v) -> h.drop(v), 0, 6, BAD);
        edges.refused("dropped twice", Houses::withUsedUp, h -> h.drop(1), BAD);
        edges.refused("dropped when a bundle used it up", Houses::withUsedUp, h -> h.drop(2), BAD);
        int[] lengths = {1, 9999};
        for (int length : lengths) {
            CaneHouse x = Houses.rods(1, length);
            due("its LENGTH was", x.drop(0), length);
            due("of 0 it is USED UP", x.about(0, 1), 0);
            due("no longer in canes", x.book(1, 1), 0);
            due("all in drops", x.book(1, 2), 4096L * length);
            due("it counts as a cane", x.count(0), 1);
            due("not as one that is not used up", x.count(1), 0);
        }
    }

    // ---- Promises 9, 10: what 0 .. 5; cells from 0 to SIDE - 1

    private static void about() {
        edges.range("about(v, 0)", Houses::busy, (h, v) -> h.about(v, 0), 0, 7, BAD);
        edges.range("about(4, v)", Houses::busy, (h, v) -> h.about(4, v), 0, 5, BAD);
        int[] usedUp = {1, 0, 1, 3, 1, 1};
        for (int what = 0; what < usedUp.length; what++) {
            int asked = what;
            edges.taken("about what was thrown away", Houses::withUsedUp, h -> h.about(1, asked), usedUp[what]);
        }
        edges.taken("about what a bundle used up", Houses::withUsedUp, h -> h.about(2, 1), 0);
        CaneHouse x = Houses.ofSide(8, 1);
        x.glass(1, 1, 9);
        due("the widest: SIDE", x.about(1, 0), 8);
        due("the widest: CELLS", x.about(1, 4), 64);
        due("the widest: COSTS", x.about(1, 5), 576);
    }

    private static void cell() {
        edges.range("cell(v, 0, 0)", Houses::busy, (h, v) -> h.cell(v, 0, 0), 0, 7, BAD);
        for (int side = 1; side <= 8; side++) {
            Edges.State state = stateOfSide(side);
            int cane = 1 - side % 2;
            int last = side - 1;
            edges.range("cell x of SIDE " + side, state, (h, v) -> h.cell(cane, v, last), 0, last, BAD);
            edges.range("cell y of SIDE " + side, state, (h, v) -> h.cell(cane, last, v), 0, last, BAD);
        }
        edges.taken("a cell of what was thrown away", Houses::withUsedUp, h -> h.cell(1, 0, 0), 2);
        edges.taken("a cell of what a bundle used up", Houses::withUsedUp, h -> h.cell(2, 0, 0), 3);
    }

    private static Edges.State stateOfSide(int side) {
        return () -> Houses.ofSide(side, 1);
    }

    // ---- Promise 11: kinds 0 .. 2, inches 0 .. LENGTH - 1

    private static void view() {
        edges.range("view(v, ..)", Houses::busy, (h, v) -> h.view(v, 5, 0, 0, 0), 0, 2, BAD);
        edges.range("view(0, v, ..)", Houses::busy, (h, v) -> h.view(0, v, 0, 0, 0), 0, 6, BAD);
        for (int kind = 0; kind <= 2; kind++) {
            int k = kind;
            edges.range("view x", Houses::busy, (h, v) -> h.view(k, 5, v, 1, 9), 0, 1, BAD);
            edges.range("view y", Houses::busy, (h, v) -> h.view(k, 5, 1, v, 9), 0, 1, BAD);
            edges.range("view z", Houses::busy, (h, v) -> h.view(k, 5, 1, 1, v), 0, 9, BAD);
            edges.range("view z of one inch", () -> Houses.rods(1, 1), (h, v) -> h.view(k, 0, 0, 0, v), 0, 0, BAD);
            edges.refused("view of what was thrown away", Houses::withUsedUp, h -> h.view(k, 1, 0, 0, 0), BAD);
            edges.refused("view of what a bundle used up", Houses::withUsedUp, h -> h.view(k, 2, 0, 0, 0), BAD);
        }
    }

    /** Quarter turns by number, of the cells 1 2 over 3 4. */
    private static final int[][] TURNED = {{1, 2, 3, 4}, {3, 1, 4, 2}, {4, 3, 2, 1}, {2, 4, 1, 3}};

    /** With a TWIST of 40 in 40 inches each inch is a quarter further, and the fourth is as the first. */
    private static void viewWrapsAround() {
        CaneHouse x = Houses.fourCells(40);
        x.twist(4, 40);
        long traced = 0;
        for (int z = 0; z < 40; z++) {
            for (int i = 0; i < 4; i++) {
                int due = TURNED[z % 4][i];
                due("twisted at " + z, x.view(1, 4, i % 2, i / 2, z), due);
                traced += 11;
            }
            due("mirrored at " + z, x.view(2, 4, 0, 0, z), TURNED[z % 4][1]);
            due("mirrored at " + z, x.view(2, 4, 1, 1, z), TURNED[z % 4][2]);
            traced += 222;
        }
        due("straight", x.view(0, 4, 0, 0, 39), 1);
        due("trace", x.trace(), traced + 1);
    }

    private static void viewTwistRoundsDown() {
        // LENGTH, TWIST, inch, quarter turns.
        int[][] rows = {
            {9999, 40, 9998, 39}, {9999, 40, 249, 0}, {9999, 40, 250, 1}, {3, 1, 2, 0}, {2, 1, 1, 0}, {2, 2, 1, 1},
            {10, 40, 9, 36}, {7, 3, 2, 0}, {7, 3, 3, 1}, {7, 3, 4, 1}, {7, 3, 5, 2}, {7, 3, 6, 2}, {5, 0, 4, 0}};
        for (int[] row : rows) {
            CaneHouse x = Houses.fourCells(row[0]);
            x.twist(4, row[1]);
            String call = "TWIST " + row[1] + " of " + row[0] + " inches at " + row[2];
            for (int i = 0; i < 4; i++) {
                due(call, x.view(1, 4, i % 2, i / 2, row[2]), TURNED[row[3] % 4][i]);
                due(call + ", straight", x.view(0, 4, i % 2, i / 2, row[2]), 1 + i);
            }
        }
    }

    // ---- Promises 12, 13: k 2, 3, 4; a place of the table, a cane or none, a TURN 0 .. 3

    private static void table() {
        edges.range("table(v)", Houses::busy, (h, v) -> h.table(v), 2, 4, BAD);
        edges.refused("table(0)", Houses::busy, h -> h.table(0), BAD);
        for (int k = 2; k <= 4; k++) {
            CaneHouse x = Houses.busy();
            due("how many places", x.table(k), k * k);
            due("k", x.count(2), k);
            for (int i = 0; i < k * k; i++) {
                due("all empty", x.lay(i % k, i / k, 0, 0), NONE);
            }
            due("as many places again", x.table(k), k * k);
            due("all empty again", x.lay(k - 1, k - 1, 0, 0), NONE);
        }
    }

    private static void lay() {
        for (int k = 2; k <= 4; k++) {
            int size = k;
            Edges.State state = () -> {
                CaneHouse x = Houses.busy();
                Houses.layEverywhere(x, size, 0);
                return x;
            };
            edges.range("lay x of " + k, state, (h, v) -> h.lay(v, size - 1, 1, 0), 0, k - 1, -2);
            edges.range("lay y of " + k, state, (h, v) -> h.lay(size - 1, v, 1, 0), 0, k - 1, -2);
        }
        edges.range("lay cane", Houses::busy, (h, v) -> h.lay(0, 0, v, 0), 0, 7, -2);
        edges.range("lay turn", Houses::busy, (h, v) -> h.lay(0, 0, 4, v), 0, 3, -2);
        edges.range("lay turn of none", Houses::busy, (h, v) -> h.lay(0, 0, NONE, v), 0, 3, -2);
        int[] nearNone = {-10, -8, -3, -2, -1};
        for (int cane : nearNone) {
            edges.refused("lay cane " + cane, Houses::busy, h -> h.lay(0, 0, cane, 0), -2);
        }
        edges.taken("none in place of 4", Houses::busy, h -> h.lay(0, 0, NONE, 0), 4);
        edges.taken("what was thrown away", Houses::withUsedUp, h -> h.lay(0, 0, 1, 0), 0);
        edges.taken("what a bundle used up", Houses::withUsedUp, h -> h.lay(0, 0, 2, 0), 0);
        edges.taken("the sixteenth cane", Houses::full, h -> h.lay(0, 0, 15, 0), 4);
        edges.refused("a seventeenth cane", Houses::full, h -> h.lay(0, 0, 16, 0), -2);
    }

    // ---- Promise 14: LENGTH 1 .. 9999; STATE: all of one SIDE, one FINENESS, without TWIST, k p at most 8, long enough

    private static CaneHouse laidRods(int length) {
        CaneHouse x = Houses.rods(4, length);
        for (int i = 0; i < 4; i++) {
            x.lay(i % 2, i / 2, i, 0);
        }
        return x;
    }

    private static void bundleLength() {
        edges.range("bundle(v)", () -> laidRods(9999), (h, v) -> h.bundle(v), 1, 9999, BAD);
        edges.taken("bundle(9999)", () -> laidRods(9999), h -> h.bundle(9999), 4);
        edges.taken("bundle(1)", () -> laidRods(1), h -> h.bundle(1), 4);
        CaneHouse x = laidRods(9999);
        x.bundle(9999);
        due("the LENGTH", x.about(4, 1), 9999);
        for (int i = 0; i < 4; i++) {
            due("all of it was taken", x.about(i, 1), 0);
        }
        due("one is not used up", x.count(1), 1);
    }

    private static void bundleInchesForEachPlace() {
        edges.taken("just enough", () -> laidRods(9), h -> h.bundle(9), 4);
        edges.refused("an inch too much", () -> laidRods(9), h -> h.bundle(10), STATE);
        for (int places = 2; places <= 4; places++) {
            for (int short1 = 0; short1 <= 1; short1++) {
                CaneHouse x = laidRods(100);
                int cane = x.rod(5, places * 30 - short1);
                for (int i = 0; i < places; i++) {
                    x.lay(i % 2, i / 2, cane, 0);
                }
                due("30 inches for each of " + places, x.bundle(30), short1 == 1 ? STATE : 5);
                due("what is left", x.about(cane, 1), short1 == 1 ? places * 30 - 1 : 0);
                due("of another", x.about(3, 1), short1 == 1 || places == 4 ? 100 : 70);
            }
        }
        for (int k = 2; k <= 4; k++) {
            int size = k;
            int most = 9999 / (k * k);
            Edges.State state = () -> {
                CaneHouse x = Houses.rods(1, 9999);
                Houses.layEverywhere(x, size, 0);
                return x;
            };
            edges.taken("one rod in all places", state, h -> h.bundle(most), 1);
            edges.refused("one rod in all places, too long", state, h -> h.bundle(most + 1), STATE);
            edges.refused("one rod in all places, far too long", state, h -> h.bundle(9999), STATE);
            CaneHouse x = state.made();
            x.bundle(most);
            due("what is left", x.about(0, 1), 9999 - most * k * k);
            due("SIDE", x.about(1, 0), k);
        }
    }

    private static void bundleSide() {
        for (int k = 2; k <= 4; k++) {
            for (int side = 1; side <= 8; side++) {
                int size = k;
                int p = side;
                int cane = 1 - side % 2;
                Edges.State state = () -> {
                    CaneHouse x = Houses.ofSide(p, 1);
                    Houses.layEverywhere(x, size, cane);
                    return x;
                };
                String call = k + " times SIDE " + side;
                if (k * side <= 8) {
                    edges.taken(call, state, h -> h.bundle(3), cane + 1);
                    CaneHouse x = state.made();
                    due(call + " is", x.about(x.bundle(3), 0), k * side);
                } else {
                    edges.refused(call, state, h -> h.bundle(3), STATE);
                }
            }
        }
    }

    /** What is wrong in one place alone is enough, whatever place it is. */
    private static void bundlePlaces() {
        for (int k = 2; k <= 4; k++) {
            for (int place = 0; place < k * k; place++) {
                int size = k;
                int x = place % k;
                int y = place / k;
                Edges.State state = () -> oneOtherRod(size, x, y);
                edges.taken("all are alike", state, h -> h.bundle(1), 2);
                edges.refused("an empty place", () -> with(state, h -> h.lay(x, y, NONE, 0)), h -> h.bundle(1), STATE);
                edges.refused("a TWIST", () -> with(state, h -> h.twist(1, 1)), h -> h.bundle(1), STATE);
                edges.refused("another FINENESS", () -> with(state, h -> h.pull(1, 2)), h -> h.bundle(1), STATE);
                edges.refused("another SIDE", () -> with(state, h -> h.cased(1, 1)), h -> h.bundle(1), STATE);
                edges.refused("used up", () -> with(state, h -> h.drop(1)), h -> h.bundle(1), STATE);
                edges.refused("too short", () -> with(state, h -> h.cut(1, 39)), h -> h.bundle(2), STATE);
            }
        }
    }

    private static CaneHouse oneOtherRod(int k, int x, int y) {
        CaneHouse h = new CaneHouse();
        h.rod(1, 9999);
        h.rod(2, 40);
        Houses.layEverywhere(h, k, 0);
        h.lay(x, y, 1, 0);
        return h;
    }

    private static CaneHouse with(Edges.State state, Edges.Call call) {
        CaneHouse x = state.made();
        call.on(x);
        return x;
    }

    private static CaneHouse manyRodsLaid(int many) {
        CaneHouse x = Houses.rods(many, 9);
        Houses.layEverywhere(x, 2, 0);
        return x;
    }

    private static void bundleIsFull() {
        edges.taken("the sixteenth", () -> manyRodsLaid(15), h -> h.bundle(2), 15);
        edges.refused("the seventeenth", () -> manyRodsLaid(16), h -> h.bundle(2), FULL);
    }

    private static void bundleOrder() {
        edges.refused("BAD before STATE: an empty table", CaneHouse::new, h -> h.bundle(0), BAD);
        edges.refused("BAD before STATE: an empty table", CaneHouse::new, h -> h.bundle(10000), BAD);
        edges.refused("BAD before STATE and FULL", () -> Houses.rods(16, 9), h -> h.bundle(0), BAD);
        edges.refused("BAD before FULL", () -> manyRodsLaid(16), h -> h.bundle(0), BAD);
        edges.refused("STATE before FULL: too long", () -> manyRodsLaid(16), h -> h.bundle(3), STATE);
        edges.refused("STATE before FULL: an empty table", () -> Houses.rods(16, 9), h -> h.bundle(1), STATE);
        Edges.State twisted = () -> with(() -> manyRodsLaid(16), h -> h.twist(0, 1));
        edges.refused("STATE before FULL: a TWIST", twisted, h -> h.bundle(1), STATE);
    }

    private static void bundleKeeps() {
        CaneHouse x = Houses.fourCells(64);
        x.pull(4, 2);
        for (int i = 0; i < 4; i++) {
            x.lay(i % 2, i / 2, 4, i);
        }
        due("126 inches in four places", x.bundle(31), 5);
        int[] told = {4, 31, 2, 0, 16, 16};
        for (int what = 0; what < told.length; what++) {
            due("that FINENESS, that LENGTH, no TWIST", x.about(5, what), told[what]);
        }
        for (int i = 0; i < 16; i++) {
            int place = i % 4 / 2 + i / 8 * 2;
            int inPart = i % 2 + i / 4 % 2 * 2;
            due("each turned, place by place", x.cell(5, i % 4, i / 4), TURNED[place][inPart]);
        }
        for (int i = 0; i < 4; i++) {
            due("THE TABLE stays", x.lay(i % 2, i / 2, 5, 0), 4);
        }
        due("no glass came or dropped by bundling", x.book(1, 0) - x.book(1, 1), x.book(1, 2));
    }

    // ---- Promise 15: what came, is in canes, in drops

    private static void book() {
        for (int what = 0; what <= 2; what++) {
            int asked = what;
            edges.range("book(v, " + what + ")", Houses::busy, (h, v) -> h.book(v, asked), 1, 8, -1);
        }
        edges.range("book(1, v)", Houses::busy, (h, v) -> h.book(1, v), 0, 2, -1);
        CaneHouse x = new CaneHouse();
        for (int g = 1; g <= 8; g++) {
            due("nothing came", x.book(g, 0) + x.book(g, 1) + x.book(g, 2), 0);
        }
    }

    /** All 16 canes as wide and as long as rods and rings allow: the book is far beyond an int. */
    private static void bookVolumes() {
        CaneHouse x = Houses.rods(16, 9999);
        for (int i = 0; i < 16; i++) {
            for (int ring = 0; ring < 3; ring++) {
                x.cased(i, 8);
            }
        }
        long all = 4096L * 9999 * (16 * 48 + 2);
        due("came", x.book(8, 0), all);
        due("in canes", x.book(8, 1), all);
        due("in drops", x.book(8, 2), 0);
        for (int i = 0; i < 16; i++) {
            x.drop(i);
        }
        due("came", x.book(8, 0), all);
        due("in canes", x.book(8, 1), 0);
        due("in drops", x.book(8, 2), all);
        due("of a rod alone", x.book(1, 2), 4096L * 9999 * 2);
        CaneHouse y = Houses.rods(1, 1);
        due("an inch of FINENESS 1", y.book(1, 1), 4096);
    }
}
