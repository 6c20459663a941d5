/** Houses in known states, for tests that compare a house with its twin. */
final class Houses {
    private Houses() {
    }

    /** Something of everything, nothing full: canes 0 .. 3 are rods, 4 is laid on the table in all turns. */
    static CaneHouse busy() {
        CaneHouse x = new CaneHouse();
        for (int i = 0; i < 4; i++) {
            x.lay(i % 2, i / 2, x.rod(1 + i, 100), 0);
        }
        x.bundle(40);
        for (int i = 0; i < 4; i++) {
            x.lay(i % 2, i / 2, 4, i);
        }
        x.cut(4, 10);
        x.twist(5, 7);
        x.rod(5, 9);
        x.cased(6, 6);
        x.pull(6, 2);
        x.rod(7, 3);
        x.drop(7);
        x.glass(2, 0, 33);
        x.glass(3, 1, 5);
        x.tolerance(22);
        x.wish(4);
        x.want(1, 2, 3);
        x.want(3, 3, 8);
        x.slice(3);
        x.see(0, 1, 6);
        x.see(1, 1, 0);
        x.saw(2);
        x.order(30);
        x.order(41);
        x.weigh(7, 56, 1);
        x.view(2, 5, 0, 0, 9);
        return x;
    }

    /** A busy house with 16 canes, 8 orders and 6 weighings; some cases are left. */
    static CaneHouse full() {
        CaneHouse x = busy();
        for (int i = 8; i < 16; i++) {
            x.rod(1 + i % 8, 20 + i);
        }
        for (int i = 2; i < 8; i++) {
            x.order(50 + i);
        }
        for (int i = 1; i < 6; i++) {
            x.weigh(64, 128, 0);
        }
        return x;
    }

    /** A full house whose weighings leave no case. */
    static CaneHouse fullOfDoubt() {
        CaneHouse x = full();
        x.anew();
        for (int i = 0; i < 6; i++) {
            x.weigh(1, 2, i % 2 * 2 - 1);
        }
        return x;
    }

    /** So many rods of glass 1 .. 8 and round again, each of so many inches. */
    static CaneHouse rods(int many, int length) {
        CaneHouse x = new CaneHouse();
        for (int i = 0; i < many; i++) {
            x.rod(1 + i % 8, length);
        }
        return x;
    }

    /** Cane 0 is a rod, cane 1 a rod that was thrown away, cane 2 one that a bundle used up; 3 is that bundle. */
    static CaneHouse withUsedUp() {
        CaneHouse x = new CaneHouse();
        x.rod(1, 50);
        x.rod(2, 50);
        x.rod(3, 20);
        for (int i = 0; i < 4; i++) {
            x.lay(i % 2, i / 2, i % 2 * 2, 0);
        }
        x.bundle(10);
        x.twist(1, 3);
        x.drop(1);
        return x;
    }

    /** Cane 4 has side 2 and cells 1 2 over 3 4, and so many inches; canes 0 .. 3 are its rods, used up. */
    static CaneHouse fourCells(int length) {
        CaneHouse x = new CaneHouse();
        for (int i = 0; i < 4; i++) {
            x.lay(i % 2, i / 2, x.rod(1 + i, length), 0);
        }
        x.bundle(length);
        return x;
    }

    /** Puts one cane, not turned, in all places of a table of k times k. */
    static void layEverywhere(CaneHouse x, int k, int cane) {
        x.table(k);
        for (int i = 0; i < k * k; i++) {
            x.lay(i % k, i / k, cane, 0);
        }
    }

    /** A house whose last cane has this side (1 .. 8) and many inches, all of one glass. */
    static CaneHouse ofSide(int side, int g) {
        CaneHouse x = new CaneHouse();
        int cane = x.rod(g, 9000);
        if (side % 2 == 0) {
            layEverywhere(x, 2, cane);
            cane = x.bundle(2000);
        }
        for (int p = side % 2 == 0 ? 2 : 1; p < side; p += 2) {
            x.cased(cane, g);
        }
        return x;
    }
}
