/** Promises 27 and 28: luck, century. */
public final class LuckTest {
    private static final Due DUE = new Due("LuckTest");
    private static final long BAD_LONG = Long.MIN_VALUE + 2;

    public static void main(String[] args) {
        luck();
        luckRefuses();
        century();
        centuryRefuses();
        DUE.end();
    }

    private static void luckIs(String told, GorseGold x, int c, int month, long above, long below) {
        DUE.is(told + ": above", x.luck(c, month, 0), above);
        DUE.is(told + ": below", x.luck(c, month, 1), below);
    }

    private static void luck() {
        luckIs("no bushes", new GorseGold(), 5, 0, 1, 1);
        GorseGold x = Due.gold("ca1", "");
        luckIs("in bloom", x, 5, 0, 0, 1);
        luckIs("green", x, 5, 6, 1, 1);
        Due.events(x, "g:0:0");
        luckIs("a goat", x, 5, 0, 5, 16);
        luckIs("a goat, in lowest terms", x, 4, 0, 1, 4);
        luckIs("a goat for sure", x, 16, 0, 1, 1);
        luckIs("a goat not at all", x, 0, 0, 0, 1);
        luckIs("the goat is gone", x, 16, 2, 0, 1);
        Due.events(x, "p:0:0 g:0:1");
        luckIs("paint, and another's goat", x, 8, 0, 1, 2);
        Due.events(x, "f:0:0");
        luckIs("a goat or a fire", x, 4, 0, 7, 16);
        x = Due.gold("ca1;ca1", "");
        Due.events(x, "g:0:0 g:0:1 r:0:0");
        luckIs("two goats or a frost", x, 8, 0, 5, 8);
        x = Due.gold("ca1;ca1;ca1;ca1;ca1;ca1;ca1;ca1", "");
        Due.events(x, "g:0:0 g:0:1 g:0:2 g:0:3 g:0:4 g:0:5 g:0:6 g:0:7");
        luckIs("eight goats", x, 15, 0, 2562890625L, 4294967296L);
        luckIs("eight goats for sure", x, 16, 0, 1, 1);
        luckIs("eight goats, rarely", x, 1, 1, 1, 4294967296L);
    }

    private static void luckRefuses() {
        GorseGold x = new GorseGold();
        DUE.is("luck(-1, 0, 0)", x.luck(-1, 0, 0), BAD_LONG);
        DUE.is("luck(17, 0, 0)", x.luck(17, 0, 0), BAD_LONG);
        DUE.is("luck(0, -1, 0)", x.luck(0, -1, 0), BAD_LONG);
        DUE.is("luck(0, 24, 0)", x.luck(0, 24, 0), BAD_LONG);
        DUE.is("luck(0, 0, -1)", x.luck(0, 0, -1), BAD_LONG);
        DUE.is("luck(0, 0, 2)", x.luck(0, 0, 2), BAD_LONG);
    }

    /** The same events told by hand make the same hill. */
    private static void century() {
        GorseGold x = Due.gold("ca3;eg2;dl9", "a0;h1;l2");
        Due.events(x, "f:0:0 f:0:1");
        for (int seed = -40; seed < 40; seed++) {
            for (int n = 0; n <= 8; n++) {
                GorseGold y = Due.gold("ca3;eg2;dl9", "a0;h1;l2");
                int lot = seed * 77777777;
                for (int i = 0; i < n; i++) {
                    lot = 1103515245 * lot + 12345;
                    int kind = (lot >>> 16) % 4;
                    lot = 1103515245 * lot + 12345;
                    int month = (lot >>> 16) % 24;
                    lot = 1103515245 * lot + 12345;
                    y.event(kind, month, (lot >>> 16) % 3);
                }
                String told = "century(" + seed * 77777777 + ", " + n + ")";
                DUE.is(told + ", 0", x.century(seed * 77777777, n, 0), Integer.bitCount(y.bare()));
                DUE.is(told + ", 1", x.century(seed * 77777777, n, 1), y.run());
            }
        }
        GorseGold lone = Due.gold("ca1", "");
        DUE.is("a goat of the one bush, in month 13", lone.century(16, 1, 0), 14);
        DUE.is("a fire of the one bush, in month 0", lone.century(14, 1, 0), 18);
        DUE.is("told events stay", x.count(4), 2);
        DUE.is("the hill stays", x.at(0, 0, 0), 2);
        x.wipe(0);
        DUE.is("no bushes: bare", x.century(1, 8, 0), 24);
        DUE.is("no bushes: run", x.century(1, 8, 1), 15);
    }

    private static void centuryRefuses() {
        GorseGold x = new GorseGold();
        DUE.is("century(0, -1, 0)", x.century(0, -1, 0), GorseGold.BAD);
        DUE.is("century(0, 9, 0)", x.century(0, 9, 0), GorseGold.BAD);
        DUE.is("century(0, 0, -1)", x.century(0, 0, -1), GorseGold.BAD);
        DUE.is("century(0, 0, 2)", x.century(0, 0, 2), GorseGold.BAD);
    }
}
