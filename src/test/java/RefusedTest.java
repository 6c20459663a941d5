import java.lang.reflect.Method;
import java.lang.reflect.Modifier;
import java.util.Arrays;
import java.util.HashMap;
import java.util.List;
import java.util.Map;
import java.util.Set;

/**
 * Many numbers in every place of every call, in an empty, a busy and two full houses: a refused call changes
 * nothing, nor does a call that only asks; and no call is refused by a word that its promise does not have.
 */
public final class RefusedTest {
    private static final int[] MANY = {
        Integer.MIN_VALUE, -10, -9, -3, -2, -1, 0, 1, 2, 3, 4, 5, 7, 8, 9, 16, 40, 41, 99, 100, 300, 301, 512, 9999,
        10000, Integer.MAX_VALUE};
    private static final int[] SOME = {-9, -2, -1, 0, 1, 2, 4, 8, 9, 13, 100};
    private static final int[] FEW = {-9, -1, 0, 1, 2, 4, 8, 16};
    private static final int[] FEWEST = {-1, 0, 1, 3, 5, 10};

    // All answers below 0 that the document tells for a call.
    private static final String BELOW = "glass -1, rod -1 -3, pull -1 -2, twist -1, cut -1 -3, cased -1 -2, drop -1, "
            + "about -1, cell -1, view -1, table -1, lay -2 -9, bundle -1 -2 -3, book -1, tolerance -1, cracks -1, "
            + "wish -1, want -1, unlike -1, plan -1, made -1, slice -1, see -2 -9, fits -1, whose, two -1, "
            + "bowl -1 -9, order -1 -3, clear, saw -1, sticks -1 -9, weigh -1 -3, anew, bad -1, next -1 -2, "
            + "count -1, trace";
    private static final Set<String> ASK_ONLY = Set.of("about", "cell", "book", "cracks", "unlike", "plan", "made",
            "fits", "whose", "two", "bowl", "sticks", "bad", "next", "count", "trace");

    private static final Check check = new Check("RefusedTest");
    private static final Map<String, Set<String>> below = new HashMap<>();

    public static void main(String[] args) throws Exception {
        for (String row : BELOW.split(", ")) {
            String[] words = row.split(" ");
            below.put(words[0], Set.of(Arrays.copyOfRange(words, 1, words.length)));
        }
        List<Edges.State> states = List.of(CaneHouse::new, Houses::busy, Houses::full, Houses::fullOfDoubt);
        for (Edges.State state : states) {
            List<String> before = Snapshot.of(state.made());
            for (Method m : CaneHouse.class.getDeclaredMethods()) {
                if (Modifier.isPublic(m.getModifiers())) {
                    tryAll(state, before, m, new Object[m.getParameterCount()], 0);
                }
            }
        }
        check.finish();
    }

    private static int[] numbers(int places) {
        return places <= 2 ? MANY : places == 3 ? SOME : places == 4 ? FEW : FEWEST;
    }

    private static void tryAll(Edges.State state, List<String> before, Method m, Object[] told, int place)
            throws Exception {
        if (check.tooManyWrong()) {
            return;
        }
        if (place < told.length) {
            for (int v : numbers(told.length)) {
                told[place] = v;
                tryAll(state, before, m, told, place + 1);
            }
            return;
        }
        CaneHouse x = state.made();
        long answer = ((Number) m.invoke(x, told)).longValue();
        String call = m.getName() + Arrays.toString(told);
        check.holds(call + " may answer " + answer,
                answer >= 0 || below.get(m.getName()).contains(Long.toString(answer)));
        if (answer >= -3 && answer < 0 || ASK_ONLY.contains(m.getName())) {
            check.holds(call + " changes nothing", Snapshot.of(x).equals(before));
        }
    }
}
