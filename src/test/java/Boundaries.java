import java.lang.reflect.InvocationTargetException;
import java.lang.reflect.Method;
import java.util.ArrayList;
import java.util.Comparator;
import java.util.List;

/** Runs the tests of a class that each bear a sentence of the document, and helps them to ask. */
abstract class Boundaries {
    interface Call {
        long on(GorseGold x);
    }

    interface Maker {
        GorseGold make();
    }

    private static Due due;
    private static String sentence = "";
    private static int asked = 0;

    static void run(Class<?> tests) {
        ask(tests);
        due.end();
    }

    private static void ask(Class<?> tests) {
        due = new Due(tests.getName());
        for (Method test : testsOf(tests)) {
            Sentence s = test.getAnnotation(Sentence.class);
            sentence = test.getName() + " [" + s.under() + ": \"" + s.says() + "\"] ";
            asked = 0;
            call(test);
            // a test that asks nothing would hold whatever the class does
            due.holds(sentence + "asks something", asked > 0);
        }
    }

    static List<Method> testsOf(Class<?> tests) {
        List<Method> found = new ArrayList<>();
        for (Method m : tests.getDeclaredMethods()) {
            if (m.isAnnotationPresent(Sentence.class)) {
                found.add(m);
            }
        }
        found.sort(Comparator.comparing(Method::getName));
        return found;
    }

    private static void call(Method test) {
        try {
            test.setAccessible(true);
            test.invoke(null);
        } catch (InvocationTargetException thrown) {
            due.holds(sentence + "ends, not by " + thrown.getCause(), false);
        } catch (IllegalAccessException closed) {
            due.holds(sentence + "can be called", false);
        }
    }

    static void is(String call, long got, long want) {
        asked++;
        due.is(sentence + call, got, want);
    }

    static void holds(String what, boolean so) {
        asked++;
        due.holds(sentence + what, so);
    }

    /** Numbers just below and just above a span, and the farthest ones. */
    static int[] outside(int least, int most) {
        return new int[] {least - 1, most + 1, Integer.MIN_VALUE, Integer.MAX_VALUE};
    }

    /** A call that is BAD on a hill with something of everything, and changes nothing. */
    static void bad(String call, Call act) {
        refused(call, Boundaries::rich, act, GorseGold.BAD, 0);
    }

    /**
     * A call is refused and changes nothing, but count() 8 to the number of the finding (0: a
     * refusal that is no finding): what can be seen of the object is what can be seen of its twin.
     */
    static void refused(String call, Maker maker, Call act, long want, int finding) {
        GorseGold x = maker.make();
        GorseGold twin = maker.make();
        is(call, act.on(x), want);
        int latest = twin.count(8);
        is(call + " leaves count(8)", x.count(8), finding == 0 ? latest : finding);
        holds(call + " changes nothing else", Portrait.of(x).equals(Portrait.of(twin)));
    }

    /** Bushes, looks, events, sights; sheets 0, 1, 2 of forms 0, 1, 2; sheet 3 is lost; a SIZE was found. */
    static GorseGold rich() {
        GorseGold x = Due.gold("ca3;eg2;dl9", "a0;h1;l2");
        x.set(0, 61);
        x.set(1, 31);
        Due.events(x, "g:1:0 r:7:9 p:20:2");
        x.seen(1, 0, 3);
        x.seen(7, 1, 4);
        for (int form = 0; form < 3; form++) {
            x.sheet(form, form, 4 - form);
            x.lay(form, form, 1, 7 + form);
        }
        x.sheet(3, 0, -1);
        return x;
    }

    /** The months, as bits, in which a bush is so. */
    static int monthsOf(GorseGold x, int bush, int state) {
        int bits = 0;
        for (int month = 0; month < 24; month++) {
            bits |= (x.at(month, bush, 0) == state ? 1 : 0) << month;
        }
        return bits;
    }

    /** The months, as bits, in which a bush SEEMS so (what = 1), is PAINTED (2). */
    static int markedMonths(GorseGold x, int bush, int what) {
        int bits = 0;
        for (int month = 0; month < 24; month++) {
            bits |= (x.at(month, bush, what) == 1 ? 1 : 0) << month;
        }
        return bits;
    }
}
