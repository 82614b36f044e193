import java.lang.reflect.InvocationTargetException;
import java.lang.reflect.Method;
import java.lang.reflect.Modifier;
import java.util.Arrays;

/** No call ever throws, for any arguments in any state: numbers far away and near each bound. */
public final class ExtremesTest extends Bell {
    private static final Checks C = new Checks("ExtremesTest");
    private static final int[] VALUES = {Integer.MIN_VALUE, Integer.MIN_VALUE + 1, -401, -20, -4, -1, 0, 1, 2, 3, 4, 5, 10, 14, 16,
        17, 20, 21, 23, 40, 60, 100, 400, Integer.MAX_VALUE - 19, Integer.MAX_VALUE};
    /** Of a call with four numbers, fewer of each: there are too many rows otherwise. */
    private static final int[] FEWER = {Integer.MIN_VALUE, -1, 0, 1, 2, 3, 20, 39, 40, Integer.MAX_VALUE - 19, Integer.MAX_VALUE};
    private static final String[] TEXTS = {
        "",
        "most 4;matters 1;gap 1;book rank;ask 0 0 0 0 0;wait 0 4;wait 0 4;wait 0 4;wait 0 4;",
        "most 16;matters 4 9 9 9 9;gap 20;near;book told;page 16 3;page 1 0;ask 0 3;wait 3 4;rung 16 1;",
        "most 16;matters 4;near;book rank;rung" + " 0".repeat(60) + ";ask 3 3 3 3 3;wait 3 4;wait 2 4;wait 1 4;wait 0 4;",
        "most 4;rung 1 2 3 4;ask 1;wait 0 0;",
    };

    private static NeverAgain make(String text) {
        NeverAgain x = told(text);
        x.sheet(0, 0, 40);
        x.sheet(1, 1, 1);
        x.sheet(2, 2, 0);
        x.lay(0, 39, 4);
        x.tell(4);
        x.tell(0);
        x.keep(1);
        return x;
    }

    private static void call(NeverAgain x, Method m, Object[] values) throws IllegalAccessException {
        String what = m.getName() + Arrays.toString(values);
        try {
            long answer = ((Number) m.invoke(x, values)).longValue();
            C.due(what + " answers " + answer, answer >= -410);
        } catch (InvocationTargetException thrown) {
            C.due(what + " throws " + thrown.getCause(), false);
        }
    }

    private static Object value(Method m, int i, int code, int[] from) {
        int v = from[code % from.length];
        return m.getParameterTypes()[i] == long.class ? (Object) (v * 4294967297L) : (Object) v;
    }

    private static void allRows(String text, Method m) throws IllegalAccessException {
        int count = m.getParameterCount();
        int[] from = count == 4 ? FEWER : VALUES;
        int rows = 1;
        for (int i = 0; i < count; i++) {
            rows *= from.length;
        }
        NeverAgain x = make(text);
        for (int row = 0; row < rows; row++) {
            // An object is used for at most 512 calls.
            if (row % 400 == 399) {
                x = make(text);
            }
            Object[] values = new Object[count];
            int code = row;
            for (int i = 0; i < count; i++) {
                values[i] = value(m, i, code, from);
                code /= from.length;
            }
            call(x, m, values);
        }
    }

    public static void main(String[] args) throws IllegalAccessException {
        for (String text : TEXTS) {
            for (Method m : NeverAgain.class.getDeclaredMethods()) {
                if (Modifier.isPublic(m.getModifiers())) {
                    allRows(text, m);
                }
            }
        }
        C.close();
    }
}
