import java.lang.reflect.InvocationTargetException;
import java.lang.reflect.Method;
import java.lang.reflect.Modifier;
import java.util.Arrays;

/** Rule 7 of LANGUAGE.md: no call throws, for any arguments, on a hill with nothing, something or all on it. */
public final class ExtremesTest {
    private static final Due DUE = new Due("ExtremesTest");
    private static final int[] ENDS = {Integer.MIN_VALUE, Integer.MIN_VALUE + 1, -1, 0, 1, 3, 9, 10, 23, 24, 60,
        Integer.MAX_VALUE - 1, Integer.MAX_VALUE};
    /** For calls with so many arguments that all ends would be too many. */
    private static final int[] FEWER_ENDS = {Integer.MIN_VALUE, -1, 0, 2, 60, Integer.MAX_VALUE};
    /** Far below the 512 calls for which an object is good, with those that make it. */
    private static final int CALLS_OF_AN_OBJECT = 200;

    private final Boundaries.Maker maker;
    private GorseGold x;
    private int calls = 0;

    private ExtremesTest(Boundaries.Maker maker) {
        this.maker = maker;
        this.x = maker.make();
    }

    public static void main(String[] args) throws IllegalAccessException {
        Boundaries.Maker[] makers = {GorseGold::new, Boundaries::rich, ExtremesTest::full, ExtremesTest::faulty};
        for (Boundaries.Maker maker : makers) {
            ExtremesTest test = new ExtremesTest(maker);
            for (Method m : GorseGold.class.getDeclaredMethods()) {
                if (Modifier.isPublic(m.getModifiers())) {
                    test.callWithAllEnds(m);
                }
            }
        }
        DUE.end();
    }

    private static GorseGold full() {
        GorseGold x = Due.gold("ca1;eb2;dc3;cd4;ee5;df6;cg7;eh8;di9;cl9", "a0;b1;c2;d3;e4;f5;g6;h7;i8;j9;k0;x9",
            "f:0:0 g:5:1 r:23:9 p:12:2 f:23:9 g:0:0 p:1:1 r:11:0");
        for (int i = 0; i < 8; i++) {
            x.seen(3 * i, i + 2, i % 5);
        }
        for (int s = 0; s < 4; s++) {
            x.sheet(s, s % 3, 60);
        }
        return x;
    }

    private static GorseGold faulty() {
        GorseGold x = Due.gold("ca1;eb2;", "a0;b1;", "f:0:0 r:0:0");
        x.seen(0, 0, 0);
        x.sheet(0, 2, 0);
        return x;
    }

    private void callWithAllEnds(Method m) throws IllegalAccessException {
        int many = m.getParameterCount();
        int[] ends = many > 3 ? FEWER_ENDS : ENDS;
        int ways = 1;
        for (int i = 0; i < many; i++) {
            ways *= ends.length;
        }
        for (int way = 0; way < ways; way++) {
            Object[] arguments = new Object[many];
            int left = way;
            for (int i = 0; i < many; i++) {
                arguments[i] = ends[left % ends.length];
                left /= ends.length;
            }
            call(m, arguments);
        }
    }

    private void call(Method m, Object[] arguments) throws IllegalAccessException {
        calls++;
        if (calls % CALLS_OF_AN_OBJECT == 0) {
            x = maker.make();
        }
        String thrown = "";
        try {
            m.invoke(x, arguments);
        } catch (InvocationTargetException e) {
            thrown = " but throws " + e.getCause();
        }
        DUE.holds(m.getName() + Arrays.toString(arguments) + " answers" + thrown, thrown.isEmpty());
    }
}
