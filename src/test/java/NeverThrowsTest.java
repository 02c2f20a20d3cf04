import java.lang.reflect.InvocationTargetException;
import java.lang.reflect.Method;
import java.lang.reflect.Modifier;
import java.util.Arrays;
import java.util.Comparator;

/** No call throws, for numbers far, near and at the edges, on objects in unlike states. */
public final class NeverThrowsTest {
    /** Ends of ints, of rows and of what the document tells; the first few are for calls that take five. */
    private static final long[] TRIED = {
        Integer.MIN_VALUE, -1, 0, 1, 6, 60, Integer.MAX_VALUE,
        -2, 2, 4, 5, 7, 8, 9, 10, 15, 16, 20, 59, 61, 98, 99, 100, 101, 999, 1000, 1 << 30, Integer.MAX_VALUE - 1,
    };
    private static final int[] HOW_MANY = {0, 28, 28, 14, 9, 7};
    /** An object is used for 512 calls; some 130 of them make its state. */
    private static final int CALLS = 370;
    private static final int STATES = 4;
    private static final Due due = new Due("NeverThrowsTest");

    private TuesdayKnew x;
    private int calls = CALLS;
    private final int state;

    private NeverThrowsTest(int state) {
        this.state = state;
    }

    public static void main(String[] args) {
        Method[] face = TuesdayKnew.class.getDeclaredMethods();
        Arrays.sort(face, Comparator.comparing(Method::getName));
        for (int state = 0; state < STATES; state++) {
            NeverThrowsTest test = new NeverThrowsTest(state);
            for (Method m : face) {
                if (Modifier.isPublic(m.getModifiers())) {
                    test.tryAll(m);
                }
            }
        }
        due.end();
    }

    private void tryAll(Method m) {
        Class<?>[] types = m.getParameterTypes();
        int each = HOW_MANY[types.length];
        int all = 1;
        for (int i = 0; i < types.length; i++) {
            all *= each;
        }
        for (int which = 0; which < all; which++) {
            Object[] values = new Object[types.length];
            int rest = which;
            for (int i = 0; i < types.length; i++) {
                long v = TRIED[rest % each];
                rest /= each;
                values[i] = types[i] == long.class ? (Object) (v * 0x100000001L) : (Object) (int) v;
            }
            call(m, values);
        }
    }

    private void call(Method m, Object[] values) {
        if (calls >= CALLS) {
            x = stateAt(state);
            calls = 0;
        }
        calls++;
        try {
            m.invoke(x, values);
        } catch (InvocationTargetException e) {
            due.holds("state " + state + ": " + m.getName() + Arrays.toString(values) + " threw "
                + e.getCause(), false);
        } catch (IllegalAccessException e) {
            throw new IllegalStateException(e);
        }
    }

    /** 0 empty; 1 in use; 2 full; 3 as an image, with steps 0 and a watch that lets nobody buy. */
    private static TuesdayKnew stateAt(int state) {
        TuesdayKnew x = new TuesdayKnew();
        if (state == 0) {
            return x;
        }
        int names = state == 2 ? 8 : 5;
        for (int i = 0; i < names; i++) {
            x.name(1 + i % 3);
            x.join(i, i - 1, 1 + i % 5);
            x.news(i, state == 2 ? 99 : i == 0 ? 3 : -1);
        }
        Due.law(x, state == 3 ? "way 0 s>0;steps 0;watch 1;paper 0" : "way 999 s>0;habit 999 f>0;watch 9");
        int trades = state == 2 ? 16 : 3;
        for (int i = 0; i < trades; i++) {
            x.trade(6 - i % 7, i % names, i % 9, 99, 99);
        }
        for (int i = 0; i < (state == 2 ? 6 : 2); i++) {
            x.blank(1 + i % 3);
            x.tape(i, i % 5, state == 2 ? 60 : i);
        }
        x.image();
        if (state == 2) {
            for (int i = 0; i < 5; i++) {
                Due.law(x, "paper 9");
            }
            Due.feed(x, "way 9 (a=1)|".repeat(9).substring(0, 100));
        }
        if (state == 3) {
            x.trade(6, 0, 0, 0, 1);
            x.undo();
        }
        return x;
    }
}
