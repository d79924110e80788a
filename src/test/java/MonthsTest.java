/** Promises 12 to 17: at, hill, bare, run, fake, last. */
public final class MonthsTest {
    private static final Due DUE = new Due("MonthsTest");

    public static void main(String[] args) {
        seasons();
        lastingOfEvents();
        oneHidesTheNext();
        severalEvents();
        paintAndSeeming();
        atRefuses();
        yellow();
        belief();
        beliefIsBounded();
        hillRefuses();
        bare();
        run();
        fake();
        last();
        DUE.end();
    }

    /** The months in which a bush is so, as bits. */
    private static int monthsOf(GorseGold x, int bush, int state) {
        int bits = 0;
        for (int m = 0; m < 24; m++) {
            if (x.at(m, bush, 0) == state) {
                bits |= 1 << m;
            }
        }
        return bits;
    }

    private static int markedMonths(GorseGold x, int bush, int what) {
        int bits = 0;
        for (int m = 0; m < 24; m++) {
            bits |= x.at(m, bush, what) << m;
        }
        return bits;
    }

    private static void seasons() {
        GorseGold x = Due.gold("ca1;ea1;da1;cl1;el1;dl1;cg1", "");
        DUE.is("ca", monthsOf(x, 0, 1), Due.months(0, 5) | Due.months(12, 17));
        DUE.is("ea", monthsOf(x, 1, 1), Due.months(0, 3) | Due.months(12, 15));
        DUE.is("da", monthsOf(x, 2, 1), Due.months(0, 2) | Due.months(12, 14));
        DUE.is("cl", monthsOf(x, 3, 1), Due.months(0, 4) | Due.months(11, 16) | 1 << 23);
        DUE.is("el", monthsOf(x, 4, 1), Due.months(0, 2) | Due.months(11, 14) | 1 << 23);
        DUE.is("dl", monthsOf(x, 5, 1), Due.months(0, 1) | Due.months(11, 13) | 1 << 23);
        DUE.is("cg", monthsOf(x, 6, 1), Due.months(6, 11) | Due.months(18, 23));
        DUE.is("ca green", monthsOf(x, 0, 0), Due.months(6, 11) | Due.months(18, 23));
    }

    private static void lastingOfEvents() {
        GorseGold x = Due.gold("ca1;ea1;da1", "");
        Due.events(x, "f:2:0 f:2:1 f:2:2");
        DUE.is("a common one is burnt for 9", monthsOf(x, 0, 2), Due.months(2, 10));
        DUE.is("an early one is burnt for 12", monthsOf(x, 1, 2), Due.months(2, 13));
        DUE.is("a dwarf one is burnt for 12", monthsOf(x, 2, 2), Due.months(2, 13));
        x = Due.gold("ca1;ea1;da1", "");
        Due.events(x, "g:5:0 g:5:1 g:5:2");
        DUE.is("a common one is eaten for 2", monthsOf(x, 0, 3), Due.months(5, 6));
        DUE.is("an early one is eaten for 2", monthsOf(x, 1, 3), Due.months(5, 6));
        DUE.is("a dwarf one is eaten for 3", monthsOf(x, 2, 3), Due.months(5, 7));
        x = Due.gold("ca1;ea1;da1", "");
        Due.events(x, "r:5:9");
        DUE.is("a common one is black for 1", monthsOf(x, 0, 4), 1 << 5);
        DUE.is("an early one is black for 2", monthsOf(x, 1, 4), Due.months(5, 6));
        DUE.is("a dwarf one is not black", monthsOf(x, 2, 4), 0);
        x = Due.gold("ca1;ea1;da1", "");
        Due.events(x, "p:5:0 p:6:1 p:22:2");
        DUE.is("a common one is painted for 3", markedMonths(x, 0, 2), Due.months(5, 7));
        DUE.is("an early one is painted for 3", markedMonths(x, 1, 2), Due.months(6, 8));
        DUE.is("paint ends with the months", markedMonths(x, 2, 2), Due.months(22, 23));
        Due.events(x, "p:1:2");
        DUE.is("a dwarf one is painted for 3", markedMonths(x, 2, 2), Due.months(1, 3) | Due.months(22, 23));
        x = Due.gold("da1", "");
        Due.events(x, "f:23:0 f:0:1");
        DUE.is("a late fire, and one of a bush that is not there", monthsOf(x, 0, 2), 1 << 23);
    }

    private static void oneHidesTheNext() {
        GorseGold x = Due.gold("ea1", "");
        Due.events(x, "r:0:0 g:1:0 f:2:0");
        DUE.is("black", x.at(0, 0, 0), 4);
        DUE.is("eaten, not black", x.at(1, 0, 0), 3);
        DUE.is("burnt, not eaten", x.at(2, 0, 0), 2);
        DUE.is("burnt in no season", x.at(11, 0, 0), 2);
        DUE.is("bloom when it is over", x.at(14, 0, 0), 1);
    }

    private static void severalEvents() {
        GorseGold x = Due.gold("ca1", "");
        Due.events(x, "f:0:0 f:5:0 g:20:0 g:21:0");
        DUE.is("two fires", monthsOf(x, 0, 2), Due.months(0, 13));
        DUE.is("two goats", monthsOf(x, 0, 3), Due.months(20, 22));
    }

    private static void paintAndSeeming() {
        GorseGold x = Due.gold("ca1", "");
        Due.events(x, "p:6:0 f:7:0 p:3:0 g:3:0");
        DUE.is("seems", markedMonths(x, 0, 1), Due.months(0, 8) | Due.months(16, 17));
        DUE.is("painted", markedMonths(x, 0, 2), Due.months(3, 8));
        DUE.is("eaten under paint", x.at(3, 0, 0), 3);
        DUE.is("burnt under paint", x.at(8, 0, 0), 2);
        DUE.is("green under paint", x.at(6, 0, 0), 0);
    }

    private static void atRefuses() {
        GorseGold x = Due.gold("ca1", "");
        DUE.is("at(-1, 0, 0)", x.at(-1, 0, 0), GorseGold.BAD);
        DUE.is("at(24, 0, 0)", x.at(24, 0, 0), GorseGold.BAD);
        DUE.is("at(0, -1, 0)", x.at(0, -1, 0), GorseGold.BAD);
        DUE.is("at(0, 1, 0)", x.at(0, 1, 0), GorseGold.BAD);
        DUE.is("at(0, 0, -1)", x.at(0, 0, -1), GorseGold.BAD);
        DUE.is("at(0, 0, 3)", x.at(0, 0, 3), GorseGold.BAD);
    }

    private static void yellow() {
        GorseGold x = Due.gold("ca3;ea5;da9", "");
        DUE.is("all", x.hill(0, 0), 17);
        DUE.is("without the dwarf one", x.hill(3, 0), 8);
        DUE.is("only the common one", x.hill(5, 0), 3);
        DUE.is("none", x.hill(6, 0), 0);
        Due.events(x, "g:0:2 p:6:1");
        DUE.is("less the eaten one", x.hill(0, 0), 8);
        DUE.is("paint is not yellow", x.hill(6, 0), 0);
        DUE.is("paint seems", x.hill(6, 2), 5);
        DUE.is("bloom seems", x.hill(12, 2), 17);
        DUE.is("painted in bloom seems once", x.hill(3, 2), 8);
    }

    private static void belief() {
        GorseGold x = Due.gold("ca3", "a0;a0;g0;h5;g0");
        DUE.is("two looks at bloom", x.hill(0, 1), 56);
        DUE.is("no look", x.hill(1, 1), 54);
        DUE.is("no look for five months", x.hill(5, 1), 46);
        DUE.is("two looks at green", x.hill(6, 1), 36);
        DUE.is("a look at none is no look", x.hill(7, 1), 34);
        Due.events(x, "f:1:0 f:1:0 f:2:1 g:3:0 p:6:0");
        DUE.is("two fires", x.hill(1, 1), 34);
        DUE.is("a fire of a bush that is not there", x.hill(2, 1), 32);
        DUE.is("a goat is no fire", x.hill(3, 1), 30);
        DUE.is("two looks at paint", x.hill(6, 1), 32);
        x.wipe(0);
        DUE.is("no bushes", x.hill(6, 1), 36);
    }

    private static void beliefIsBounded() {
        GorseGold x = Due.gold("ca9;cg9", "a0;a1");
        x.set(0, 95);
        DUE.is("100 at most, then 5 less", x.hill(0, 1), 95);
        x = Due.gold("ca9;cg9", "a1;a0");
        x.set(0, 95);
        DUE.is("5 less, then 9 more", x.hill(0, 1), 99);
        x = Due.gold("ca9;cg9", "a1;a0");
        x.set(0, 3);
        DUE.is("0 at least, then 9 more", x.hill(0, 1), 9);
        x.set(0, 15);
        Due.events(x, "f:0:1 f:0:1");
        DUE.is("fires ahead of looks", x.hill(0, 1), 9);
        x = Due.gold("", "");
        x.set(0, 1);
        DUE.is("2 less of 1", x.hill(0, 1), 0);
    }

    private static void hillRefuses() {
        GorseGold x = new GorseGold();
        DUE.is("hill(-1, 0)", x.hill(-1, 0), GorseGold.BAD);
        DUE.is("hill(24, 0)", x.hill(24, 0), GorseGold.BAD);
        DUE.is("hill(0, -1)", x.hill(0, -1), GorseGold.BAD);
        DUE.is("hill(0, 3)", x.hill(0, 3), GorseGold.BAD);
    }

    private static void bare() {
        GorseGold x = Due.gold("ca1;cg1", "");
        DUE.is("none is bare", x.bare(), 0);
        Due.events(x, "g:3:0 r:8:0 p:3:0");
        DUE.is("a goat and a frost", x.bare(), Due.months(3, 4) | 1 << 8);
        x.wipe(0);
        DUE.is("no bushes", x.bare(), 0xFFFFFF);
    }

    private static void run() {
        GorseGold x = new GorseGold();
        DUE.is("50, 48 .. is below 20 behind 15", x.run(), 15);
        x.set(1, 50);
        DUE.is("below 50", x.run(), 0);
        x.set(1, 48);
        DUE.is("below 48", x.run(), 1);
        x.set(1, 2);
        DUE.is("2 is not below 2", x.run(), GorseGold.NONE);
        x.set(1, 3);
        DUE.is("below 3 at last", x.run(), 23);
        x.set(0, 0);
        x.set(1, 0);
        DUE.is("nothing is below 0", x.run(), GorseGold.NONE);
    }

    private static void fake() {
        GorseGold x = Due.gold("ca1;da1", "a0;g0;g1;h0;g9;i0;j0");
        Due.events(x, "p:6:0 p:0:0 p:6:9");
        DUE.is("painted and green", x.fake(), 1 << 1 | 1 << 3 | 1 << 5);
        Due.events(x, "g:0:0");
        DUE.is("painted and eaten", x.fake(), 1 | 1 << 1 | 1 << 3 | 1 << 5);
        x.wipe(1);
        DUE.is("no looks", x.fake(), 0);
    }

    private static void last() {
        GorseGold x = Due.gold("da1;ca1;cb1", "");
        DUE.is("which", x.last(0), 1);
        DUE.is("in how many", x.last(1), 12);
        Due.events(x, "r:0:0");
        DUE.is("which, by a frost", x.last(0), 2);
        x = Due.gold("da1;ca1", "");
        Due.events(x, "f:0:1 f:9:1 f:18:1 f:0:0 f:12:0");
        DUE.is("none blooms: the least", x.last(0), 0);
        DUE.is("none blooms: in 0", x.last(1), 0);
        DUE.is("last(2)", x.last(2), GorseGold.BAD);
        DUE.is("last(-1)", x.last(-1), GorseGold.BAD);
        x.wipe(0);
        DUE.is("no bushes: which", x.last(0), GorseGold.NONE);
        DUE.is("no bushes: in how many", x.last(1), GorseGold.NONE);
    }
}
