import java.util.Random;

/**
 * LEAST OUT of chance pictures (always the same ones) against the plain way: row by row, over all sets of cells
 * that a row may keep. A chance run of all calls has hardly a picture in which the first pairs are not the best.
 */
public final class LeastOutTest {
    private static final Check check = new Check("LeastOutTest");
    private static final Random chance = new Random(17);

    public static void main(String[] args) {
        for (int i = 0; i < 150 && !check.tooManyWrong(); i++) {
            ofRods(2 + i % 3);
            ofParts(2 + i % 3, 2);
            ofParts(2, 3 + i % 2);
        }
        check.finish();
    }

    /** A picture of k times k rods, as it is and in rings. */
    private static void ofRods(int k) {
        CaneHouse x = Houses.rods(8, 9999);
        int cane = bundled(x, k, 0, 8);
        askWithManyShrinks(x, cane);
        while (x.about(cane, 0) <= 6) {
            x.cased(cane, 1 + chance.nextInt(8));
            askWithManyShrinks(x, cane);
        }
    }

    /** A picture of k times k pictures of rods, turned by chance. */
    private static void ofParts(int k, int part) {
        CaneHouse x = Houses.rods(8, 9999);
        for (int i = 0; i < 4; i++) {
            bundled(x, part, 0, 8);
        }
        askWithManyShrinks(x, bundled(x, k, 8, 4));
    }

    private static int bundled(CaneHouse x, int k, int first, int many) {
        x.table(k);
        for (int i = 0; i < k * k; i++) {
            x.lay(i % k, i / k, first + chance.nextInt(many), chance.nextInt(4));
        }
        return x.bundle(first == 0 ? 100 : 2);
    }

    private static void askWithManyShrinks(CaneHouse x, int cane) {
        int p = x.about(cane, 0);
        int[][] rows = new int[p][p];
        for (int i = 0; i < p * p; i++) {
            rows[i / p][i % p] = x.cell(cane, i % p, i / p);
        }
        int[] shrink = new int[9];
        for (int i = 0; i < 4; i++) {
            for (int g = 1; g <= 8; g++) {
                shrink[g] = chance.nextInt(100);
                x.glass(g, 0, shrink[g]);
            }
            int tolerance = 20 + chance.nextInt(60);
            x.tolerance(tolerance);
            ask(x, cane, rows, shrink, tolerance);
        }
    }

    private static void ask(CaneHouse x, int cane, int[][] rows, int[] shrink, int tolerance) {
        int p = rows.length;
        int[] beside = new int[p];
        int[] under = new int[p];
        int pairs = 0;
        for (int i = 0; i < p * p; i++) {
            int column = i % p;
            int row = i / p;
            int here = shrink[rows[row][column]];
            if (column + 1 < p && Math.abs(here - shrink[rows[row][column + 1]]) > tolerance) {
                beside[row] |= 1 << column;
                pairs++;
            }
            if (row + 1 < p && Math.abs(here - shrink[rows[row + 1][column]]) > tolerance) {
                under[row] |= 1 << column;
                pairs++;
            }
        }
        check.due("CRACKS, SIDE " + p, x.cracks(cane, 0), pairs);
        check.due("LEAST OUT, SIDE " + p, x.cracks(cane, 1), PlainHouse.leastOut(p, beside, under));
    }
}
