import java.util.ArrayList;
import java.util.List;

/** All that a house can be asked for. The house is spent by it: some things are told only by changing them. */
final class Snapshot {
    // A house answers 512 calls; those that made it what it is have to fit, too.
    private static final int MOST_CALLS = 400;

    private final CaneHouse house;
    private final List<String> told = new ArrayList<>();

    private Snapshot(CaneHouse house) {
        this.house = house;
    }

    static List<String> of(CaneHouse house) {
        Snapshot s = new Snapshot(house);
        s.counts();
        s.canes();
        s.books();
        s.orders();
        s.weighings();
        s.table();
        s.glasses();
        s.wish();
        s.slice();
        if (s.told.size() > MOST_CALLS) {
            throw new IllegalStateException("a snapshot of " + s.told.size() + " calls is too long");
        }
        return s.told;
    }

    private long tell(String call, long answer) {
        told.add(call + " = " + answer);
        return answer;
    }

    private void counts() {
        for (int what = 0; what <= 5; what++) {
            tell("count(" + what + ")", house.count(what));
        }
        tell("trace()", house.trace());
    }

    private void canes() {
        int canes = house.count(0);
        for (int i = 0; i < canes; i++) {
            for (int what = 1; what <= 3; what++) {
                tell("about(" + i + ", " + what + ")", house.about(i, what));
            }
            cells(i);
        }
    }

    private void cells(int cane) {
        long side = tell("about(" + cane + ", 0)", house.about(cane, 0));
        for (int i = 0; i < side * side; i++) {
            int x = (int) (i % side);
            int y = (int) (i / side);
            tell("cell(" + cane + ", " + x + ", " + y + ")", house.cell(cane, x, y));
        }
    }

    private void books() {
        for (int g = 1; g <= 8; g++) {
            for (int what = 0; what <= 2; what++) {
                tell("book(" + g + ", " + what + ")", house.book(g, what));
            }
        }
    }

    private void orders() {
        int[] lengths = {29, 30, 31, 40, 41, 42, 43, 57, 58, 72, 73, 74, 75, 99, 150, 300};
        for (int length : lengths) {
            tell("sticks(" + length + ")", house.sticks(length));
        }
        tell("saw(0)", house.saw(0));
        tell("sticks(300) without a saw", house.sticks(300));
        tell("clear()", house.clear());
    }

    private void weighings() {
        for (int what = 0; what <= 2; what++) {
            tell("bad(" + what + ")", house.bad(what));
            tell("next(" + what + ")", house.next(what));
        }
        tell("anew()", house.anew());
    }

    /** How canes are turned on the table is told by a bundle alone. */
    private void table() {
        long bundled = tell("bundle(1)", house.bundle(1));
        if (bundled >= 0) {
            cells((int) bundled);
        }
        int k = house.count(2);
        for (int i = 0; i < k * k; i++) {
            tell("lay(" + i % k + ", " + i / k + ", none)", house.lay(i % k, i / k, CaneHouse.NONE, 0));
        }
    }

    private void glasses() {
        for (int g = 1; g <= 8; g++) {
            tell("shrink of " + g, house.glass(g, 0, 0));
            tell("cost of " + g, house.glass(g, 1, 1));
        }
        tell("tolerance(0)", house.tolerance(0));
    }

    private void wish() {
        for (int y = 0; y < 8; y++) {
            for (int x = 0; x < 8; x++) {
                if (tell("want(" + x + ", " + y + ", 0)", house.want(x, y, 0)) == CaneHouse.BAD) {
                    break;
                }
            }
        }
    }

    private void slice() {
        for (int y = 0; y < 8; y++) {
            for (int x = 0; x < 8; x++) {
                if (tell("see(" + x + ", " + y + ", none)", house.see(x, y, CaneHouse.NONE)) == -2) {
                    break;
                }
            }
        }
    }
}
