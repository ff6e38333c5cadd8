import java.lang.reflect.InvocationTargetException;
import java.lang.reflect.Method;
import java.lang.reflect.Modifier;

/** Every method with every mix of plain and outermost numbers, in several states: none may throw. */
public final class NeverThrowsTest {
    private static final int[] NUMBERS = {Integer.MIN_VALUE, -2, -1, 0, 1, 2, 5, 6, 10, 60, 101, Integer.MAX_VALUE};

    private final Checks c = new Checks();

    private void all(String state, PoisonBook x) {
        for (Method m : PoisonBook.class.getDeclaredMethods()) {
            if (Modifier.isPublic(m.getModifiers())) {
                int mixes = 1;
                for (int i = 0; i < m.getParameterCount(); i++) {
                    mixes *= NUMBERS.length;
                }
                for (int mix = 0; mix < mixes; mix += m.getParameterCount() > 4 ? 1001 : 1) {
                    call(state, x, m, mix);
                }
            }
        }
    }

    private void call(String state, PoisonBook x, Method m, int mix) {
        Object[] args = new Object[m.getParameterCount()];
        int rest = mix;
        for (int i = 0; i < args.length; i++) {
            args[i] = NUMBERS[rest % NUMBERS.length];
            rest /= NUMBERS.length;
        }
        try {
            m.invoke(x, args);
            c.due(state, 0, 0);
        } catch (InvocationTargetException | IllegalAccessException e) {
            c.due(state + ": " + m + " with " + java.util.Arrays.toString(args) + " threw " + e.getCause(), 1, 0);
        }
    }

    public static void main(String[] args) {
        NeverThrowsTest t = new NeverThrowsTest();
        t.all("new", new PoisonBook());
        t.all("no BUYERS", Checks.told("book 0 0 1"));
        PoisonBook x = Checks.told("book 99 9 10;sky 3 9;buyer 20 9 0;buyer 20 1 9;buyer 3 3 3;buyer 4 4 4;buyer 5 5 5;"
                + "buyer 6 6 6;watch 9 5");
        t.all("six BUYERS", x);
        for (int i = 0; i < 6; i++) {
            Checks.rule(x, "buy temper * temper * 99999 % " + i + " - day / clock if [ not next < 5 or sold > shelf ]");
            x.force(i);
            x.image(i % 4);
            t.all("RULES", x);
        }
        x.end(0);
        for (int i = 0; i < 30; i++) {
            x.feed(0x5b5b5b5b, 0x62757920, 0x31206966, 0x206e6f74, -1);
            t.all("odd bytes", x);
        }
        t.c.close("NeverThrowsTest");
    }
}
