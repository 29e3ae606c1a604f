import java.lang.reflect.InvocationTargetException;
import java.lang.reflect.Method;
import java.lang.reflect.Modifier;

/** Every call with numbers far off, in several states: none throws, and a refused one changes nothing. */
public final class NeverThrowsTest {
    private static final Due T = new Due("NeverThrowsTest");
    private static final int[] NUMBERS = {
        Integer.MIN_VALUE, Integer.MIN_VALUE + 1, -1000000, -9, -3, -2, -1, 0, 1, 4, 5, 6, 7, 11, 31, 32, 200, 256, 501,
        Integer.MAX_VALUE - 1, Integer.MAX_VALUE};
    private static final String[] TEXTS = {
        "", "r0 1 1;", "d9 1;", "s1;", "r5 0 3;d0 1;s0;s0;",
        "r30 3 99;r30 3 99;r30 3 99;r30 3 99;r30 1 99;d9 30;d9 30;d9 30;d9 30;d9 30;s31;s31;s31;s31;s31;s0;c5;w9;n500;"};

    public static void main(String[] args) throws IllegalAccessException {
        for (String text : TEXTS) {
            for (int state = 0; state < 3; state++) {
                for (Method m : DoorCases.class.getDeclaredMethods()) {
                    if (Modifier.isPublic(m.getModifiers())) {
                        tryAll(text, state, m, new Object[m.getParameterCount()], 0);
                    }
                }
            }
        }
        T.end();
    }

    private static DoorCases objectIn(String text, int state) {
        DoorCases x = Due.told(text);
        if (state > 0) {
            x.goes(0);
            x.does(0);
            x.asks(0);
        }
        if (state > 1) {
            x.does(0);
            x.keep(0);
            x.felt(0, 9);
        }
        return x;
    }

    private static void tryAll(String text, int state, Method m, Object[] with, int at) throws IllegalAccessException {
        if (at == with.length) {
            tryOne(text, state, m, with);
            return;
        }
        // Five arguments at once would be four million ways: the later ones are tried more coarsely.
        int step = at < 2 ? 1 : 4;
        for (int i = at % step; i < NUMBERS.length; i += step) {
            with[at] = NUMBERS[i];
            tryAll(text, state, m, with, at + 1);
        }
    }

    private static void tryOne(String text, int state, Method m, Object[] with) throws IllegalAccessException {
        DoorCases x = objectIn(text, state);
        try {
            long got = ((Number) m.invoke(x, with)).longValue();
            // A rate or a feeling may be below 0 without being refused.
            boolean signed = m.getName().equals("rate") || m.getName().equals("room");
            boolean refused = got == DoorCases.BAD || got == DoorCases.STATE || got == DoorCases.FULL;
            if (got == DoorCases.NO || (refused && !signed)) {
                T.due(m.getName() + " was refused and changed nothing", Due.look(x).equals(Due.look(objectIn(text, state))));
            }
        } catch (InvocationTargetException thrown) {
            T.due(m.getName() + " throws " + thrown.getCause() + " in " + text, false);
        }
    }
}
