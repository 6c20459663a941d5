import java.lang.reflect.Method;
import java.util.ArrayList;
import java.util.Arrays;
import java.util.HashMap;
import java.util.List;
import java.util.Map;
import java.util.Random;

/** Runs of chance calls (always the same ones), each asked of CaneHouse and of PlainHouse. */
public final class ModelTest {
    private static final int RUNS = 240;
    private static final int CALLS = 512;
    private static final int[] ODD = {Integer.MIN_VALUE, Integer.MAX_VALUE, -9, -1, 0, 1, 2, 100, 513, 1 << 30};

    private static final Map<String, Method> own = methodsOf(CaneHouse.class);
    private static final Map<String, Method> plain = methodsOf(PlainHouse.class);
    private static final Map<String, Integer> taken = new HashMap<>();
    private static final Check check = new Check("ModelTest");

    private final Random chance;
    private final CaneHouse house = new CaneHouse();
    private final PlainHouse model = new PlainHouse();
    private final List<String> told = new ArrayList<>();
    private boolean failed = false;

    private ModelTest(long seed) {
        chance = new Random(seed);
    }

    public static void main(String[] args) throws Exception {
        for (int run = 1; run <= RUNS && !check.tooManyWrong(); run++) {
            new ModelTest(run).go(run);
        }
        for (String name : own.keySet()) {
            check.holds(name + " was often answered and not refused", taken.getOrDefault(name, 0) > 50);
        }
        check.finish();
    }

    private static Map<String, Method> methodsOf(Class<?> of) {
        Map<String, Method> all = new HashMap<>();
        for (Method m : of.getDeclaredMethods()) {
            if (of != CaneHouse.class || java.lang.reflect.Modifier.isPublic(m.getModifiers())) {
                all.put(m.getName(), m);
            }
        }
        return all;
    }

    private void go(int run) throws Exception {
        // Some runs are spent on one part of the face, so that its states get far.
        int part = run % 6;
        while (told.size() < CALLS && !failed) {
            int what = part < 4 && chance.nextInt(3) > 0 ? part : chance.nextInt(4);
            switch (what) {
                case 0: caneCall(); break;
                case 1: wishCall(); break;
                case 2: sliceCall(); break;
                default: scaleCall(); break;
            }
        }
    }

    private long both(String name, int... args) throws Exception {
        if (told.size() >= CALLS || failed) {
            return 0;
        }
        Object[] boxed = Arrays.stream(args).boxed().toArray();
        String call = name + Arrays.toString(args);
        long got = ((Number) own.get(name).invoke(house, boxed)).longValue();
        long want = ((Number) plain.get(name).invoke(model, boxed)).longValue();
        told.add(call + " = " + got);
        check.due("call " + told.size() + ", " + call, got, want);
        if (got != want) {
            failed = true;
            told.forEach(row -> System.out.println("  " + row));
        }
        if (got >= 0) {
            taken.merge(name, 1, Integer::sum);
        }
        return got;
    }

    /** Mostly a number from least to most, now and then one beside or far off. */
    private int number(int least, int most) {
        int how = chance.nextInt(40);
        if (how == 0) {
            return ODD[chance.nextInt(ODD.length)];
        }
        if (how == 1) {
            return chance.nextBoolean() ? least - 1 : most + 1;
        }
        return within(least, most);
    }

    private int within(int least, int most) {
        return most < least ? least : least + chance.nextInt(most - least + 1);
    }

    private int someCane() {
        return number(0, Math.max(0, model.canes.size() - 1));
    }

    private int sideOf(int cane) {
        return cane >= 0 && cane < model.canes.size() ? model.canes.get(cane).rows.length : 1;
    }

    private int lengthOf(int cane) {
        return cane >= 0 && cane < model.canes.size() ? model.canes.get(cane).length : 1;
    }

    private void caneCall() throws Exception {
        int cane = someCane();
        int last = sideOf(cane) - 1;
        switch (chance.nextInt(18)) {
            case 0: both("glass", number(1, 8), number(0, 1), number(0, chance.nextBoolean() ? 9 : 99)); break;
            case 1: if (chance.nextInt(3) == 0) both("rod", number(1, 4), number(1, 9999)); break;
            case 2: both("pull", cane, chance.nextBoolean() ? 2 : number(2, 4)); break;
            case 3: both("twist", cane, chance.nextBoolean() ? 0 : number(0, 40)); break;
            case 4: if (chance.nextInt(4) == 0) both("cut", cane, number(1, lengthOf(cane) - 1)); break;
            case 5: if (chance.nextInt(3) == 0) both("cased", cane, number(1, 8)); break;
            case 6: if (chance.nextInt(12) == 0) both("drop", cane); break;
            case 7: both("about", cane, number(0, 5)); break;
            case 8: both("cell", cane, number(0, last), number(0, last)); break;
            case 9:
            case 10:
                both("view", number(0, 2), cane, number(0, last), number(0, last), number(0, lengthOf(cane) - 1));
                break;
            case 11: if (chance.nextInt(4) == 0) both("table", number(2, 4)); break;
            case 12: both("lay", number(0, model.k - 1), number(0, model.k - 1), someCane(), number(0, 3)); break;
            case 13: if (chance.nextInt(4) == 0) both("lay", number(0, 1), number(0, 1), -9, number(0, 3)); break;
            case 14: both("bundle", number(1, chance.nextBoolean() ? 20 : 9999)); break;
            case 15: both("book", number(1, 8), number(0, 2)); break;
            case 16: if (model.canes.size() < 16) layAll(); break;
            default: both("count", number(0, 5)); both("trace"); break;
        }
    }

    private void layAll() throws Exception {
        List<Integer> alike = new ArrayList<>();
        int like = within(0, Math.max(0, model.canes.size() - 1));
        for (int i = 0; i < model.canes.size(); i++) {
            PlainHouse.Stick c = model.canes.get(i);
            PlainHouse.Stick first = model.canes.get(like);
            if (c.rows.length == first.rows.length && c.fineness == first.fineness && c.length >= 40) {
                alike.add(i);
            }
        }
        if (alike.isEmpty()) {
            return;
        }
        if (chance.nextInt(3) == 0) {
            both("table", within(2, 4));
        }
        for (int y = 0; y < model.k; y++) {
            for (int x = 0; x < model.k; x++) {
                int cane = alike.get(chance.nextInt(alike.size()));
                if (chance.nextInt(3) > 0) {
                    both("twist", cane, 0);
                }
                both("lay", x, y, cane, within(0, 3));
            }
        }
        int most = 9999;
        for (int i : alike) {
            int places = 0;
            for (int[] row : model.laidCane) {
                for (int c : row) {
                    places += c == i ? 1 : 0;
                }
            }
            most = places == 0 ? most : Math.min(most, model.canes.get(i).length / places);
        }
        int length = chance.nextInt(3) == 0 ? most : within(1, Math.max(1, most / 3));
        both("bundle", chance.nextInt(10) == 0 ? most + 1 : length);
    }

    private void wishCall() throws Exception {
        int last = model.wish.length - 1;
        switch (chance.nextInt(10)) {
            case 0: both("tolerance", number(0, chance.nextBoolean() ? 30 : 99)); break;
            case 1: both("cracks", someCane(), number(0, 1)); break;
            case 2: both("cracks", someCane(), 1); break;
            case 3: if (chance.nextInt(6) == 0) both("wish", number(1, 8)); break;
            case 4: both("want", number(0, last), number(0, last), number(0, 8)); break;
            case 5: both("unlike", 1 << chance.nextInt(4)); both("unlike", number(1, 8)); break;
            case 6: both("plan", number(1, 3), number(0, 1)); break;
            case 7: both("made", someCane()); break;
            case 8: if (chance.nextInt(6) == 0) wishOfCane(); break;
            default: if (chance.nextInt(6) == 0) wishOfTiles(); break;
        }
    }

    private void wishOfCane() throws Exception {
        int cane = someCane();
        if (model.cane(cane) == null || !PlainHouse.power(sideOf(cane))) {
            return;
        }
        int[][] rows = PlainHouse.turned(model.cane(cane).rows, within(0, 3));
        if (chance.nextBoolean()) {
            rows = PlainHouse.mirrored(rows);
        }
        both("wish", rows.length);
        for (int y = 0; y < rows.length; y++) {
            for (int x = 0; x < rows.length; x++) {
                both("want", x, y, rows[y][x]);
            }
        }
        both("made", cane);
    }

    private void wishOfTiles() throws Exception {
        both("wish", 1 << within(1, 3));
        int size = model.wish.length;
        int tile = Math.min(size, 1 << within(0, 2));
        int[][] rows = new int[tile][tile];
        for (int[] row : rows) {
            for (int x = 0; x < tile; x++) {
                row[x] = within(0, 2);
            }
        }
        for (int top = 0; top < size; top += tile) {
            for (int left = 0; left < size; left += tile) {
                rows = PlainHouse.turned(rows, within(0, 3));
                if (chance.nextInt(5) == 0) {
                    rows = PlainHouse.mirrored(rows);
                }
                for (int i = 0; i < tile * tile; i++) {
                    both("want", left + i % tile, top + i / tile, rows[i / tile][i % tile]);
                }
            }
        }
        for (int side = 1; side <= 8; side *= 2) {
            both("unlike", side);
        }
        both("plan", within(1, 3), 0);
        both("plan", within(1, 3), 1);
    }

    private void sliceCall() throws Exception {
        int last = model.slice.length - 1;
        switch (chance.nextInt(16)) {
            case 0: if (chance.nextInt(4) == 0) both("slice", number(1, 8)); break;
            case 1:
            case 2: both("see", number(0, last), number(0, last), chance.nextInt(4) == 0 ? -9 : number(0, 8)); break;
            case 3: both("fits", someCane()); break;
            case 4: both("whose"); break;
            case 5: both("two", someCane(), someCane()); break;
            case 6: if (chance.nextInt(3) == 0) sliceOfCanes(); break;
            case 7: both("bowl", number(2, 12), number(1, 8), number(0, 1)); break;
            case 8: both("bowl", within(2, 12), sideOf(someCane()), within(0, 1)); break;
            case 9:
            case 10: both("order", number(1, 99)); break;
            case 11: if (chance.nextInt(3) == 0) both("clear"); break;
            case 12: both("saw", number(0, 3)); break;
            case 13: both("sticks", number(1, 300)); break;
            case 14: both("sticks", within(90, 130)); break;
            default: both("sticks", evenStick()); break;
        }
    }

    /** A stick of which some of the orders go out even, or nearly so. */
    private int evenStick() {
        int sum = -model.saw;
        for (int inches : model.orders) {
            sum += chance.nextBoolean() ? inches + model.saw : 0;
        }
        return Math.max(1, Math.min(300, sum + within(-1, 3)));
    }

    private void sliceOfCanes() throws Exception {
        int first = someCane();
        int second = someCane();
        if (model.cane(first) == null) {
            return;
        }
        if (model.cane(second) == null || sideOf(second) != sideOf(first)) {
            second = first;
        }
        int[][] left = PlainHouse.turned(model.cane(first).rows, within(0, 3));
        int[][] right = PlainHouse.turned(model.cane(second).rows, within(0, 3));
        if (chance.nextInt(3) == 0) {
            left = PlainHouse.mirrored(left);
            right = left;
        }
        int p = left.length;
        int m = chance.nextBoolean() ? p : within(1, p);
        both("slice", p);
        for (int i = 0; i < p * p; i++) {
            if (chance.nextInt(3) > 0) {
                both("see", i % p, i / p, (i % p < m ? left : right)[i / p][i % p]);
            }
        }
        both("count", 3);
        both("fits", first);
        both("whose");
        both("two", first, second);
        both("two", second, first);
        both("bowl", within(2, 12), p, 0);
        both("bowl", within(2, 12), p, 1);
    }

    private void scaleCall() throws Exception {
        switch (chance.nextInt(8)) {
            case 0: both("weigh", number(1, 511), number(1, 511), number(-1, 1)); break;
            case 1:
            case 2: weighSomeRods(); break;
            case 3: if (chance.nextInt(3) == 0) both("anew"); break;
            case 4:
            case 5: both("bad", number(0, 2)); break;
            default: both("next", number(0, 2)); break;
        }
    }

    private void weighSomeRods() throws Exception {
        int size = within(1, 4);
        List<Integer> rods = new ArrayList<>(List.of(0, 1, 2, 3, 4, 5, 6, 7, 8));
        java.util.Collections.shuffle(rods, chance);
        int left = 0;
        int right = 0;
        for (int i = 0; i < size; i++) {
            left |= 1 << rods.get(i);
            right |= 1 << rods.get(8 - i);
        }
        both("weigh", left, right, number(-1, 1));
        for (int what = 0; what < 3; what++) {
            both("bad", what);
            both("next", what);
        }
    }
}
