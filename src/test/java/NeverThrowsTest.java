import java.lang.reflect.InvocationTargetException;
import java.lang.reflect.Method;
import java.lang.reflect.Modifier;

/** Every method with odd numbers in every place, in an empty, a used and a full house: none throws. */
public final class NeverThrowsTest {
    private static final int[] ODD = {
        Integer.MIN_VALUE, Integer.MIN_VALUE + 1, -10000, -9, -3, -1, 0, 1, 2, 4, 8, 9, 16, 41, 300, 511,
        9999, 65536, 1 << 30, Integer.MAX_VALUE};
    private static final int[] FEW = {Integer.MIN_VALUE, -9, -1, 0, 1, 3, 8, Integer.MAX_VALUE};
    private static final Check check = new Check("NeverThrowsTest");

    public static void main(String[] args) throws Exception {
        for (int state = 0; state < 3; state++) {
            for (Method m : CaneHouse.class.getDeclaredMethods()) {
                if (Modifier.isPublic(m.getModifiers())) {
                    CaneHouse x = house(state);
                    tryAll(x, m, new Object[m.getParameterCount()], 0);
                }
            }
        }
        check.finish();
    }

    private static CaneHouse house(int state) {
        CaneHouse x = new CaneHouse();
        if (state == 0) {
            return x;
        }
        for (int i = 0; i < 4; i++) {
            x.rod(1 + i, 9999);
            x.lay(i % 2, i / 2, i, 0);
            x.order(20 + i);
            x.weigh(1 << i, 16, i % 2);
        }
        x.bundle(2000);
        x.cased(4, 8);
        x.drop(1);
        x.wish(8);
        x.slice(4);
        x.see(1, 2, 3);
        for (int i = 0; state == 2 && i < 16; i++) {
            x.cut(4, 10 + i);
            x.order(99);
            x.weigh(1, 2, 0);
        }
        return x;
    }

    private static void tryAll(CaneHouse x, Method m, Object[] told, int place) throws Exception {
        if (place < told.length) {
            for (int v : told.length > 3 ? FEW : ODD) {
                told[place] = v;
                tryAll(x, m, told, place + 1);
            }
            return;
        }
        String thrown = "";
        try {
            m.invoke(x, told);
        } catch (InvocationTargetException e) {
            thrown = m.getName() + java.util.Arrays.toString(told) + " threw " + e.getCause();
        }
        check.holds(thrown, thrown.isEmpty());
    }
}
