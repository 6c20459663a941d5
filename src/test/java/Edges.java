import java.util.List;

/** Asks at the edges of what is told: what is taken there, what is refused, that a refused call changes nothing. */
final class Edges {
    interface State {
        CaneHouse made();
    }

    interface Call {
        long on(CaneHouse x);
    }

    interface CallWith {
        long on(CaneHouse x, int v);
    }

    private final Check check;

    Edges(Check check) {
        this.check = check;
    }

    void taken(String call, State state, Call asked, long want) {
        check.due(call, asked.on(state.made()), want);
    }

    /** The call answers so, and all that the house can be asked for is as in a twin that was not asked. */
    void refused(String call, State state, Call asked, long want) {
        CaneHouse x = state.made();
        check.due(call, asked.on(x), want);
        compare(call + " changes nothing", Snapshot.of(x), Snapshot.of(state.made()));
    }

    /** Numbers from least to most are taken, the next ones on either side and far ones are not. */
    void range(String call, State state, CallWith asked, int least, int most, long bad) {
        int[] inside = {least, most};
        for (int v : inside) {
            check.holds(call + " takes " + v, asked.on(state.made(), v) != bad);
        }
        int[] outside = {least - 1, most + 1, Integer.MIN_VALUE, Integer.MAX_VALUE, most + 65536, most + 256};
        for (int v : outside) {
            refused(call + " with " + v, state, x -> asked.on(x, v), bad);
        }
    }

    private void compare(String what, List<String> got, List<String> want) {
        check.due(what + ": how much is told", got.size(), want.size());
        for (int i = 0; i < Math.min(got.size(), want.size()); i++) {
            boolean same = got.get(i).equals(want.get(i));
            check.holds(what + (same ? "" : ": " + got.get(i) + ", before " + want.get(i)), same);
        }
    }
}
