import java.math.BigInteger;

/** What the document says of the ends of chances, LOTS and centuries, and of promises 27 and 28. */
public final class LuckBoundaryTest extends Boundaries {
    private static final long BAD_LONG = Long.MIN_VALUE + 2;
    private static final String EIGHT_BUSHES = "ca1;ca1;ca1;ca1;ca1;ca1;ca1;ca1";
    private static final String EIGHT_GOATS = "g:0:0 g:0:1 g:0:2 g:0:3 g:0:4 g:0:5 g:0:6 g:0:7";
    private static final int[] SEEDS = {0, 1, -1, 7, 8, 12345, -12345, 65535, 65536, 1 << 30, -1 << 30,
        Integer.MAX_VALUE, Integer.MIN_VALUE, Integer.MAX_VALUE - 1, Integer.MIN_VALUE + 1, 1103515245};

    public static void main(String[] args) {
        run(LuckBoundaryTest.class);
    }

    private static void luckIs(String told, GorseGold x, int c, int month, long above, long below) {
        is(told + ": above", x.luck(c, month, 0), above);
        is(told + ": below", x.luck(c, month, 1), below);
    }

    // ---- FRACTIONS, LUCK

    @Sentence(under = "Terms", says = "FRACTIONS are told in lowest terms, above and below (0 by 1).")
    static void aChanceOf0Is0By1() {
        luckIs("in BLOOM, no EVENTS", Due.gold("ca1", ""), 5, 0, 0, 1);
        luckIs("in BLOOM, eight EVENTS of which none hinders", Due.gold("ca1", "",
            "p:0:0 p:0:0 p:0:0 p:0:0 p:0:0 p:0:0 p:0:0 p:0:0"), 5, 0, 0, 1);
        luckIs("a goat by 0 sixteenths", Due.gold("ca1", "", "g:0:0"), 0, 0, 0, 1);
        luckIs("a goat by 16 sixteenths, where it is gone", Due.gold("ca1", "", "g:0:0"), 16, 2, 0, 1);
    }

    @Sentence(under = "Terms", says = "FRACTIONS are told in lowest terms, above and below (0 by 1).")
    static void aFractionIsInLowestTerms() {
        long[][] want = {{0, 1}, {1, 16}, {1, 8}, {3, 16}, {1, 4}, {5, 16}, {3, 8}, {7, 16}, {1, 2}, {9, 16}, {5, 8},
            {11, 16}, {3, 4}, {13, 16}, {7, 8}, {15, 16}, {1, 1}};
        for (int c = 0; c <= 16; c++) {
            luckIs("one goat by " + c, Due.gold("ca1", "", "g:0:0"), c, 0, want[c][0], want[c][1]);
        }
        luckIs("1 by 1, no BUSHES", new GorseGold(), 5, 0, 1, 1);
        luckIs("1 by 1, GREEN, by a goat", Due.gold("ca1", "", "g:0:0"), 5, 6, 1, 1);
    }

    @Sentence(under = "Terms",
        says = "LUCK: each of EVENTS is by c sixteenths (0 to 16), by itself: the chance that a MONTH is BARE: a FRACTION.")
    static void luckBy0And16SixteenthsIsNoneAndAll() {
        String events = "f:0:0 g:5:1 r:11:0 p:3:0 g:7:1";
        for (int month = 0; month < 24; month++) {
            boolean without = Due.gold("ca1;dg1", "").hill(month, 0) == 0;
            boolean with = Due.gold("ca1;dg1", "", events).hill(month, 0) == 0;
            GorseGold x = Due.gold("ca1;dg1", "", events);
            luckIs("by 0, MONTH " + month, x, 0, month, without ? 1 : 0, 1);
            luckIs("by 16, MONTH " + month, x, 16, month, with ? 1 : 0, 1);
        }
    }

    @Sentence(under = "Terms",
        says = "LUCK: each of EVENTS is by c sixteenths (0 to 16), by itself: the chance that a MONTH is BARE: a FRACTION.")
    static void luckOfEightEventsIsExact() {
        GorseGold x = Due.gold(EIGHT_BUSHES, "", EIGHT_GOATS);
        luckIs("all eight by 1", x, 1, 0, 1, 1L << 32);
        luckIs("all eight by 15", x, 15, 0, 2562890625L, 1L << 32);
        luckIs("all eight by 8", x, 8, 0, 1, 256);
        luckIs("all eight by 16", x, 16, 0, 1, 1);
        x = Due.gold("ca1", "", "g:0:0 g:0:0 g:0:0 g:0:0 g:0:0 g:0:0 g:0:0 g:0:0");
        luckIs("any of eight by 1", x, 1, 0, (1L << 32) - 2562890625L, 1L << 32);
        luckIs("any of eight by 15", x, 15, 0, (1L << 32) - 1, 1L << 32);
    }

    @Sentence(under = "Terms",
        says = "LUCK: each of EVENTS is by c sixteenths (0 to 16), by itself: the chance that a MONTH is BARE: a FRACTION.")
    static void luckIsAsBySomeOfTheEventsEach() {
        luckIsAsBySome("ca1;dg1", "f:0:0 g:5:1 r:11:0 p:3:0 g:7:1");
        luckIsAsBySome("el1;ek1;cj1", "r:23:0 r:22:0 f:0:2 g:13:0");
        luckIsAsBySome("ca1;ca1", "g:0:0 g:0:1 r:0:5 g:1:0 f:0:9");
    }

    private static void luckIsAsBySome(String bushes, String events) {
        int many = events.split(" ").length;
        int[] bare = new int[1 << many];
        for (int set = 0; set < 1 << many; set++) {
            StringBuilder some = new StringBuilder();
            for (int i = 0; i < many; i++) {
                some.append((set >> i & 1) == 1 ? events.split(" ")[i] + " " : "");
            }
            bare[set] = Due.gold(bushes, "", some.toString().trim()).bare();
        }
        for (int month = 0; month < 24; month++) {
            for (int c : new int[] {0, 1, 4, 5, 8, 15, 16}) {
                BigInteger above = BigInteger.ZERO;
                BigInteger below = BigInteger.valueOf(16).pow(many);
                for (int set = 0; set < 1 << many; set++) {
                    int so = Integer.bitCount(set);
                    above = (bare[set] >> month & 1) == 0 ? above
                        : above.add(BigInteger.valueOf(c).pow(so).multiply(BigInteger.valueOf(16 - c).pow(many - so)));
                }
                BigInteger common = above.gcd(below);
                luckIs(bushes + " by " + c + ", MONTH " + month, Due.gold(bushes, "", events), c, month,
                    above.divide(common).longValueExact(), below.divide(common).longValueExact());
            }
        }
    }

    @Sentence(under = "Promise 27: luck", says = "LUCK: above, below. BAD. (As the least long.)")
    static void luckIsBad() {
        for (int c : outside(0, 16)) {
            refused("luck(" + c + ", 0, 0)", Boundaries::rich, x -> x.luck(c, 0, 0), BAD_LONG, 0);
            refused("luck(" + c + ", 0, 1)", Boundaries::rich, x -> x.luck(c, 0, 1), BAD_LONG, 0);
        }
        for (int month : outside(0, 23)) {
            refused("luck(5, " + month + ", 0)", Boundaries::rich, x -> x.luck(5, month, 0), BAD_LONG, 0);
        }
        for (int what : outside(0, 1)) {
            refused("luck(5, 0, " + what + ")", Boundaries::rich, x -> x.luck(5, 0, what), BAD_LONG, 0);
        }
        refused("luck(17, 0, 0) of a new object", GorseGold::new, x -> x.luck(17, 0, 0), BAD_LONG, 0);
    }

    @Sentence(under = "Terms", says = "Where the answer is a long, a refusal -x is the least long and x more.")
    static void aRefusalOfALongIsTheLeastLongAnd2More() {
        is("luck(-1, 0, 0)", new GorseGold().luck(-1, 0, 0), -9223372036854775806L);
    }

    // ---- LOTS, CENTURY

    /** The upper 16 bits of SEED as a number from 0 on, by numbers that do not wrap. */
    private static int[] lots(int seed, int many) {
        BigInteger s = BigInteger.valueOf(seed);
        BigInteger wrap = BigInteger.ONE.shiftLeft(32);
        int[] lots = new int[many];
        for (int i = 0; i < many; i++) {
            s = s.multiply(BigInteger.valueOf(1103515245)).add(BigInteger.valueOf(12345)).mod(wrap);
            lots[i] = s.shiftRight(16).intValueExact();
        }
        return lots;
    }

    private static GorseGold byHand(String bushes, String looks, int seed, int n) {
        GorseGold x = Due.gold(bushes, looks);
        int there = x.count(0);
        int[] lots = lots(seed, 3 * n);
        for (int i = 0; i < n; i++) {
            x.event(lots[3 * i] % 4, lots[3 * i + 1] % 24, lots[3 * i + 2] % there);
        }
        return x;
    }

    private static void centuryIsAsByHand(String bushes, String looks) {
        for (int seed : SEEDS) {
            for (int n = 0; n <= 8; n++) {
                GorseGold by = byHand(bushes, looks, seed, n);
                GorseGold x = Due.gold(bushes, looks, "f:0:0 f:12:0");
                String told = bushes + ": century(" + seed + ", " + n;
                is(told + ", 0)", x.century(seed, n, 0), by.count(5));
                is(told + ", 1)", x.century(seed, n, 1), by.run());
            }
        }
    }

    @Sentence(under = "Terms",
        says = "LOTS of m: SEED becomes 1103515245 SEED and 12345, as ints that wrap; its upper 16 bits as a number from 0 on, modulo m.")
    static void lotsWrapAndAreNeverBelow0() {
        centuryIsAsByHand("ca1", "");
        centuryIsAsByHand("ca3;eg2;dl9", "a0;h1;l2");
        centuryIsAsByHand("ca1;eb2;dc3;cd4;ee5;df6;cg7;eh8;di9;cj1", "a9;h8;l7");
    }

    @Sentence(under = "Terms",
        says = "CENTURY by a SEED: n EVENTS (0 to 8), in place of those told (none where there are no BUSHES)")
    static void centuryOfNoEventsIsAHillWithoutAny() {
        GorseGold x = Due.gold("ca1;cg1", "", "r:0:0 f:0:0 f:0:1");
        is("BARE by what is told", x.count(5), 9);
        is("century(5, 0, 0)", x.century(5, 0, 0), 0);
        is("run() by what is told", x.run(), 5);
        is("century(5, 0, 1)", x.century(5, 0, 1), 15);
    }

    @Sentence(under = "Terms",
        says = "CENTURY by a SEED: n EVENTS (0 to 8), in place of those told (none where there are no BUSHES)")
    static void centuryLeavesThoseToldAsTheyAre() {
        for (int n = 0; n <= 8; n += 8) {
            GorseGold x = rich();
            x.century(7, n, 0);
            x.century(7, n, 1);
            holds("all is as it was", Portrait.of(x).equals(Portrait.of(rich())));
        }
    }

    @Sentence(under = "Terms",
        says = "CENTURY by a SEED: n EVENTS (0 to 8), in place of those told (none where there are no BUSHES)")
    static void centuryWithoutBushesHasNoEvents() {
        for (int seed : SEEDS) {
            is("BARE by " + seed, new GorseGold().century(seed, 8, 0), 24);
            is("RUN by " + seed, new GorseGold().century(seed, 8, 1), 15);
            is("BARE by " + seed + ", a fault", Due.gold("ca1;", "").century(seed, 8, 0), 24);
        }
    }

    @Sentence(under = "Terms",
        says = "of each a LOT of 4 (its kind), a LOT of 24 (its MONTH), a LOT of BUSHES: how many MONTHS are BARE; the MONTH of a RUN; NONE.")
    static void centuryIs0To24BareMonthsAndARunOrNone() {
        is("no MONTH", Due.gold("ca1;cg1", "").century(0, 0, 0), 0);
        is("all MONTHS", new GorseGold().century(0, 0, 0), 24);
        GorseGold x = new GorseGold();
        x.set(1, 2);
        is("no RUN", x.century(0, 0, 1), GorseGold.NONE);
        x.set(1, 3);
        is("in the last MONTH", x.century(0, 0, 1), 23);
        x.set(1, 50);
        is("in the first MONTH", x.century(0, 0, 1), 0);
    }

    @Sentence(under = "Promise 28: century",
        says = "CENTURY: how many MONTHS (what = 0), the MONTH of a RUN (1; NONE).")
    static void centuryTakesEverySeed() {
        for (int seed : SEEDS) {
            holds("century(" + seed + ", 8, 0)", Due.gold("ca1", "").century(seed, 8, 0) >= 12);
            holds("century(" + seed + ", 8, 1)", Due.gold("ca1", "").century(seed, 8, 1) >= GorseGold.NONE);
        }
        GorseGold x = Due.gold("ca1", "");
        x.set(1, 0);
        is("century(7, 8, 1) without DOUBT", x.century(7, 8, 1), GorseGold.NONE);
    }

    @Sentence(under = "Promise 28: century", says = "BAD.")
    static void centuryIsBad() {
        for (int n : outside(0, 8)) {
            bad("century(1, " + n + ", 0)", x -> x.century(1, n, 0));
            bad("century(1, " + n + ", 1)", x -> x.century(1, n, 1));
            refused("century(1, " + n + ", 0) without BUSHES", GorseGold::new, x -> x.century(1, n, 0),
                GorseGold.BAD, 0);
        }
        for (int what : outside(0, 1)) {
            bad("century(1, 1, " + what + ")", x -> x.century(1, 1, what));
        }
    }
}
