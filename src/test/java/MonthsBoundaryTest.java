/** What the document says of the ends of months, of belief, and of promises 12 to 17. */
public final class MonthsBoundaryTest extends Boundaries {
    private static final String KINDS = "ced";

    public static void main(String[] args) {
        run(MonthsBoundaryTest.class);
    }

    private static GorseGold threeKinds() {
        return Due.gold("ca1;ea1;da1", "");
    }

    /** From a month on for as many, but none behind MONTH 23. */
    private static int span(int from, int many) {
        return Due.months(from, Math.min(23, from + many - 1));
    }

    // ---- Terms: what a bush is

    private static void seasonIs(int kind, int lasting) {
        for (int begin = 0; begin < 12; begin++) {
            int want = 0;
            for (int i = 0; i < lasting; i++) {
                int month = (begin + i) % 12;
                want |= 1 << month | 1 << month + 12;
            }
            String bush = KINDS.charAt(kind) + "" + (char) ('a' + begin) + "1";
            GorseGold x = Due.gold(bush, "");
            is(bush + " in BLOOM", monthsOf(x, 0, 1), want);
            is(bush + " GREEN", monthsOf(x, 0, 0), 0xFFFFFF & ~want);
        }
    }

    @Sentence(under = "Terms",
        says = "A BUSH is in its SEASON in a MONTH, if that is, by 12 left over, one of as many months of a year from that on in which it begins: of a common one 6, of an early one 4, of a dwarf one 3.")
    static void aSeasonGoesOnOverTheEndOfTheYear() {
        seasonIs(0, 6);
        seasonIs(1, 4);
        seasonIs(2, 3);
    }

    /** By an event of each bush in each month: from it on for as many months as the bush's kind takes. */
    private static void lastingIs(int event, int state, int common, int early, int dwarf) {
        for (int month = 0; month < 24; month++) {
            GorseGold x = threeKinds();
            for (int bush = 0; bush < 3; bush++) {
                x.event(event, month, bush);
            }
            is("a common one, from " + month, monthsOf(x, 0, state), span(month, common));
            is("an early one, from " + month, monthsOf(x, 1, state), span(month, early));
            is("a dwarf one, from " + month, monthsOf(x, 2, state), span(month, dwarf));
        }
    }

    @Sentence(under = "Terms", says = "By a FIRE it is BURNT from that MONTH on for 12 MONTHS, a common one for 9")
    static void aFireLasts12MonthsOrNine() {
        lastingIs(0, 2, 9, 12, 12);
    }

    @Sentence(under = "Terms", says = "by a GOAT EATEN likewise for 2, a dwarf one for 3")
    static void aGoatLasts2MonthsOrThree() {
        lastingIs(1, 3, 2, 2, 3);
    }

    @Sentence(under = "Terms", says = "by a FROST BLACK likewise for 1, an early one for 2, a dwarf one not at all.")
    static void aFrostLasts1MonthOr2OrNone() {
        lastingIs(2, 4, 1, 2, 0);
        GorseGold x = Due.gold("da1", "", "r:0:0 r:1:0 r:13:0");
        is("a dwarf one in BLOOM all the same", monthsOf(x, 0, 1), Due.months(0, 2) | Due.months(12, 14));
    }

    @Sentence(under = "Terms", says = "(By several as long as any of them makes it.)")
    static void severalEventsLastAsLongAsAny() {
        GorseGold x = Due.gold("ca1;ea1", "");
        Due.events(x, "f:4:0 f:0:0 g:16:0 g:15:0 g:15:0 r:20:0 r:21:0 r:20:1");
        is("fires that overlap, the later told first", monthsOf(x, 0, 2), Due.months(0, 12));
        is("goats that overlap", monthsOf(x, 0, 3), Due.months(15, 17));
        is("frosts, one behind the other", monthsOf(x, 0, 4), Due.months(20, 21));
        is("frosts of an early one", monthsOf(x, 1, 4), Due.months(20, 22));
        x = Due.gold("ca1", "");
        Due.events(x, "f:0:0 f:15:0");
        is("fires apart", monthsOf(x, 0, 2), Due.months(0, 8) | Due.months(15, 23));
    }

    @Sentence(under = "Terms", says = "PAINTED it is likewise for 3.")
    static void paintLasts3Months() {
        for (int month = 0; month < 24; month++) {
            GorseGold x = threeKinds();
            for (int bush = 0; bush < 3; bush++) {
                x.event(3, month, bush);
            }
            for (int bush = 0; bush < 3; bush++) {
                is("bush " + bush + ", from " + month, markedMonths(x, bush, 2), span(month, 3));
            }
        }
        GorseGold x = Due.gold("ca1", "");
        Due.events(x, "p:5:0 p:4:0 p:10:0");
        is("by several", markedMonths(x, 0, 2), Due.months(4, 7) | Due.months(10, 12));
    }

    @Sentence(under = "Terms",
        says = "In a MONTH it is BURNT, if it is so, else EATEN, else BLACK, else in BLOOM in its SEASON, else GREEN.")
    static void burntHidesEatenHidesBlackHidesBloom() {
        for (int set = 0; set < 8; set++) {
            GorseGold x = Due.gold("ca1;cg1", "");
            for (int kind = 2; kind >= 0; kind--) {
                for (int bush = 0; bush < 2 && (set >> kind & 1) == 1; bush++) {
                    x.event(kind, 0, bush);
                }
            }
            boolean burnt = (set & 1) == 1;
            boolean eaten = (set & 2) == 2;
            boolean black = (set & 4) == 4;
            int held = burnt ? 2 : eaten ? 3 : black ? 4 : 0;
            is("in its SEASON, by " + set, x.at(0, 0, 0), held == 0 ? 1 : held);
            is("out of it, by " + set, x.at(0, 1, 0), held);
        }
    }

    @Sentence(under = "Terms", says = "YELLOW in a MONTH are the SPARKS of all that are in BLOOM.")
    static void yellowIs0To90() {
        GorseGold x = Due.gold("ca9;ca9;ca9;ca9;ca9;ca9;ca9;ca9;ca9;ca9", "");
        is("of ten", x.hill(0, 0), 90);
        is("of ten, the last month of the SEASON", x.hill(17, 0), 90);
        is("of ten GREEN ones", x.hill(18, 0), 0);
        is("of none", new GorseGold().hill(0, 0), 0);
        Due.events(x, "f:0:0 g:0:1 p:6:2");
        is("less BURNT and EATEN ones", x.hill(0, 0), 72);
        is("PAINTED is not YELLOW", x.hill(6, 0), 0);
        x.event(2, 0, 0);
        is("all BLACK", x.hill(0, 0), 0);
    }

    @Sentence(under = "Terms", says = "It SEEMS so, if it is in BLOOM, or PAINTED.")
    static void seemsIsBloomOrPaint() {
        GorseGold x = Due.gold("ca1", "");
        is("without paint", markedMonths(x, 0, 1), Due.months(0, 5) | Due.months(12, 17));
        Due.events(x, "f:0:0 p:2:0 p:23:0 p:12:0");
        is("burnt for 9, painted thrice", markedMonths(x, 0, 1), Due.months(2, 4) | Due.months(12, 17) | 1 << 23);
    }

    // ---- Terms: belief

    @Sentence(under = "Terms", says = "BELIEF is FAITH at first.")
    static void beliefBeginsWithFaith() {
        for (int faith : new int[] {0, 1, 2, 3, 50, 99, 100}) {
            GorseGold x = new GorseGold();
            x.set(0, faith);
            is("FAITH " + faith, x.hill(0, 1), Math.max(0, faith - 2));
        }
    }

    private static int beliefBehind0(String looks, String events, int faith) {
        GorseGold x = Due.gold("ca9;cg9;ca1", looks, events);
        x.set(0, faith);
        return x.hill(0, 1);
    }

    @Sentence(under = "Terms", says = "In each MONTH, one behind the other, always 0 at least, and 100 at most")
    static void beliefIsNeverBelow0() {
        is("2 less of 2", beliefBehind0("", "", 2), 0);
        is("2 less of 1", beliefBehind0("", "", 1), 0);
        is("2 less of 0", beliefBehind0("", "", 0), 0);
        is("5 less of 5", beliefBehind0("a1", "", 5), 0);
        is("5 less of 4", beliefBehind0("a1", "", 4), 0);
        is("a fire of 12, and 2 less", beliefBehind0("", "f:0:1", 12), 0);
        is("5 less of 3, then 1 more", beliefBehind0("a1;a2", "", 3), 1);
        is("5 less of 3 twice, then 9 more", beliefBehind0("a1;a1;a0", "", 3), 9);
        is("a fire of 9, then 9 more", beliefBehind0("a0", "f:0:1", 9), 9);
        is("a fire of 10, then 9 more", beliefBehind0("a0", "f:0:1", 10), 9);
        is("a fire of 11, then 9 more", beliefBehind0("a0", "f:0:1", 11), 10);
        is("eight fires of 50, then 9 more",
            beliefBehind0("a0", "f:0:1 f:0:1 f:0:1 f:0:1 f:0:1 f:0:1 f:0:1 f:0:1", 50), 9);
        GorseGold x = new GorseGold();
        x.set(0, 3);
        is("behind MONTH 1", x.hill(1, 1), 0);
        is("behind MONTH 23", x.hill(23, 1), 0);
    }

    @Sentence(under = "Terms", says = "In each MONTH, one behind the other, always 0 at least, and 100 at most")
    static void beliefIsNeverAbove100() {
        is("9 more of 91", beliefBehind0("a0", "", 91), 100);
        is("9 more of 92", beliefBehind0("a0", "", 92), 100);
        is("9 more of 100", beliefBehind0("a0", "", 100), 100);
        is("9 more of 99, then 5 less", beliefBehind0("a0;a1", "", 99), 95);
        is("5 less of 99, then 9 more", beliefBehind0("a1;a0", "", 99), 100);
        is("5 less of 96, then 9 more", beliefBehind0("a1;a0", "", 96), 100);
        is("5 less of 95, then 9 more", beliefBehind0("a1;a0", "", 95), 99);
        is("twelve looks", beliefBehind0("a0;a0;a0;a0;a0;a0;a0;a0;a0;a0;a0;a0", "", 0), 100);
        is("a fire of 100, then 9 more", beliefBehind0("a0", "f:0:1", 100), 99);
        GorseGold x = Due.gold("ca9", "a0;b0;c0");
        x.set(0, 95);
        is("100 behind MONTH 2, from 100 behind MONTH 1", x.hill(2, 1), 100);
        is("2 less behind MONTH 3", x.hill(3, 1), 98);
    }

    @Sentence(under = "Terms", says = "it becomes 10 less for each FIRE of that MONTH (of a BUSH that is there)")
    static void firesCountByTheBushesThatAreThere() {
        is("of the last that is there", beliefBehind0("", "f:0:2", 50), 38);
        is("of the first that is not", beliefBehind0("", "f:0:3", 50), 48);
        is("of BUSH 9", beliefBehind0("", "f:0:9", 50), 48);
        is("of another MONTH", beliefBehind0("", "f:1:0", 50), 48);
        is("two of one BUSH", beliefBehind0("", "f:0:0 f:0:0", 50), 28);
        is("a goat, a frost, paint", beliefBehind0("", "g:0:0 r:0:0 p:0:0", 50), 48);
        GorseGold x = Due.gold("ca9", "");
        x.event(0, 23, 0);
        is("ahead of MONTH 23", x.hill(22, 1), 4);
        x.set(0, 100);
        is("behind MONTH 23", x.hill(23, 1), 42);
    }

    @Sentence(under = "Terms",
        says = "for each LOOK of it, as told, at a BUSH that is there: as much more as that has SPARKS, if it SEEMS so, else 5 less")
    static void looksCountAsToldByTheBushesThatAreThere() {
        is("at the last that is there", beliefBehind0("a2", "", 50), 51);
        is("at the first that is not", beliefBehind0("a3", "", 50), 48);
        is("at BUSH 9, and at one that is there", beliefBehind0("a9;a0", "", 50), 59);
        is("at one twice", beliefBehind0("a0;a0", "", 50), 68);
        is("at a GREEN one", beliefBehind0("a1", "", 50), 45);
        is("at a PAINTED one", beliefBehind0("a1", "p:0:1", 50), 59);
        is("at a BLACK one", beliefBehind0("a0", "r:0:0", 50), 45);
        is("at a BURNT one that is PAINTED", beliefBehind0("a0", "f:0:0 p:0:0", 50), 49);
        is("in the order told, which 100 shows", beliefBehind0("a0;a1;a0;a1", "", 98), 95);
        GorseGold x = Due.gold("ca9;cg9", "x1;x0;a0");
        is("behind MONTH 0, told last", x.hill(0, 1), 59);
        is("behind MONTH 22", x.hill(22, 1), 15);
        is("behind MONTH 23", x.hill(23, 1), 19);
    }

    @Sentence(under = "Terms", says = "and 2 less, if there was none of these LOOKS.")
    static void withoutALookItIs2Less() {
        is("none", beliefBehind0("", "", 50), 48);
        is("one in another MONTH", beliefBehind0("b0", "", 50), 48);
        is("one at a BUSH that is not there", beliefBehind0("a9", "", 50), 48);
        is("one that is 5 less", beliefBehind0("a1", "", 50), 45);
        is("none, behind a fire", beliefBehind0("", "f:0:0", 50), 38);
        GorseGold x = new GorseGold();
        for (int month = 0; month < 24; month++) {
            is("BELIEF behind MONTH " + month, x.hill(month, 1), 48 - 2 * month);
        }
    }

    @Sentence(under = "Terms", says = "There is a RUN in the first MONTH behind which it is less than DOUBT.")
    static void aRunIsInTheFirstMonthBehindWhichBeliefIsLess() {
        GorseGold x = new GorseGold();
        for (int month = 0; month < 24; month++) {
            int behind = 48 - 2 * month;
            x.set(1, behind);
            is("BELIEF as much as DOUBT " + behind, x.run(), month == 23 ? GorseGold.NONE : month + 1);
            x.set(1, behind + 1);
            is("BELIEF less than DOUBT " + (behind + 1), x.run(), month);
        }
        x = Due.gold("ca9", "b0");
        x.set(0, 21);
        is("less behind MONTH 0 only", x.run(), 0);
        x.set(0, 22);
        x.set(1, 28);
        is("FAITH itself less than DOUBT, and BELIEF behind MONTH 0", x.run(), 0);
    }

    @Sentence(under = "Terms", says = "There is a RUN in the first MONTH behind which it is less than DOUBT.")
    static void faithLessThanDoubtAheadOfMonth0IsNoRun() {
        GorseGold x = Due.gold("ca9", "a0;b0;c0;d0;e0;f0;m0;n0;o0;p0;q0;r0");
        x.set(0, 41);
        x.set(1, 50);
        is("9 more behind MONTH 0", x.hill(0, 1), 50);
        is("no run()", x.run(), GorseGold.NONE);
        x.set(0, 40);
        is("run() behind MONTH 0", x.run(), 0);
    }

    // ---- paragraph 2

    @Sentence(under = "Terms", says = "what it is (0 GREEN, 1 in BLOOM, 2 BURNT, 3 EATEN, 4 BLACK)")
    static void whatItIsIs0To4() {
        GorseGold x = Due.gold("ca1", "");
        Due.events(x, "f:3:0 g:1:0 r:0:0");
        is("BLACK", x.at(0, 0, 0), 4);
        is("EATEN", x.at(1, 0, 0), 3);
        is("BURNT", x.at(3, 0, 0), 2);
        is("in BLOOM", x.at(12, 0, 0), 1);
        is("GREEN", x.at(18, 0, 0), 0);
    }

    @Sentence(under = "Terms", says = "BARE MONTHS (without YELLOW), as bits.")
    static void bareMonthsAreThoseWithoutYellow() {
        GorseGold x = Due.gold("da1", "");
        is("in bloom in 3 months of each year", x.bare(), 0xFFFFFF & ~(7 | 7 << 12));
        x.event(3, 3, 0);
        is("paint is not YELLOW", x.bare(), 0xFFFFFF & ~(7 | 7 << 12));
        x.event(1, 0, 0);
        is("the first year is eaten", x.bare(), 0xFFFFFF & ~(7 << 12));
        for (int month = 0; month < 24; month++) {
            is("MONTH " + month, x.bare() >> month & 1, x.hill(month, 0) == 0 ? 1 : 0);
        }
    }

    @Sentence(under = "Terms", says = "RUN; NONE.")
    static void runIsNoneWhereBeliefIsNeverLess() {
        GorseGold x = new GorseGold();
        x.set(1, 0);
        is("DOUBT 0", x.run(), GorseGold.NONE);
        x.set(0, 0);
        is("DOUBT 0, FAITH 0", x.run(), GorseGold.NONE);
        x.set(1, 1);
        is("DOUBT 1, FAITH 0", x.run(), 0);
    }

    @Sentence(under = "Terms", says = "FAKE: LOOKS at one that SEEMS so, and is not in BLOOM, as bits of LOOKS.")
    static void fakeIsPaintWithoutBloom() {
        GorseGold x = Due.gold("ca1;ca1", "f0;g0;h0;i0;g1;g2;g9;x0;x1;f0;a1;g0");
        is("without paint", x.fake(), 0);
        Due.events(x, "p:5:0 p:23:0 p:5:2 p:5:9");
        is("painted in 5 to 7, in bloom to 5", x.fake(), 1 << 1 | 1 << 2 | 1 << 7 | 1 << 11);
        x.event(1, 5, 0);
        is("eaten in 5", x.fake(), 1 | 1 << 1 | 1 << 2 | 1 << 7 | 1 << 9 | 1 << 11);
    }

    @Sentence(under = "Terms", says = "FAKE: LOOKS at one that SEEMS so, and is not in BLOOM, as bits of LOOKS.")
    static void fakeIsNotOfABushThatIsThereNoMore() {
        GorseGold x = Due.gold("ca1;cg1", "a1", "p:0:1");
        is("while it is there", x.fake(), 1);
        for (int i = 0; i < 4; i++) {
            x.undo(0);
        }
        is("the other one is left", x.count(0), 1);
        is("once it is undone", x.fake(), 0);
        is("BELIEF by the LOOK at it", x.hill(0, 1), 48);
    }

    @Sentence(under = "Terms",
        says = "LAST: the BUSH in BLOOM in most MONTHS, of like ones the least: which; in how many; NONE: there are none.")
    static void lastIsTheLeastOfLikeOnes() {
        GorseGold x = Due.gold("da1;ea1;ca1;cg1;cb1", "");
        is("which", x.last(0), 2);
        is("in how many", x.last(1), 12);
        x.event(1, 0, 2);
        is("which, once two months are eaten", x.last(0), 3);
        x = Due.gold("da1;da1;da1;da1;da1;da1;da1;da1;da1;ea1", "");
        is("the tenth", x.last(0), 9);
        is("in how many", x.last(1), 8);
    }

    @Sentence(under = "Terms",
        says = "LAST: the BUSH in BLOOM in most MONTHS, of like ones the least: which; in how many; NONE: there are none.")
    static void lastOfBushesThatNeverBloomIsTheFirst() {
        GorseGold x = Due.gold("da1;da1", "");
        Due.events(x, "f:0:0 f:12:0 f:0:1 f:12:1");
        is("which", x.last(0), 0);
        is("in how many", x.last(1), 0);
        x.back();
        is("which, once one blooms", x.last(0), 1);
        is("in how many, once one blooms", x.last(1), 3);
    }

    // ---- Promise 12

    @Sentence(under = "Promise 12: at",
        says = "What it is (what = 0), whether it SEEMS so (1: 1, 0), whether PAINTED (2: 1, 0).")
    static void atTellsTheFirstAndTheLastMonth() {
        GorseGold x = Due.gold("ca1;cg1", "");
        Due.events(x, "p:23:0 p:0:1");
        int[][] first = {{1, 1, 0}, {0, 1, 1}};
        int[][] last = {{0, 1, 1}, {1, 1, 0}};
        for (int bush = 0; bush < 2; bush++) {
            for (int what = 0; what < 3; what++) {
                is("at(0, " + bush + ", " + what + ")", x.at(0, bush, what), first[bush][what]);
                is("at(23, " + bush + ", " + what + ")", x.at(23, bush, what), last[bush][what]);
            }
        }
    }

    @Sentence(under = "Promise 12: at", says = "BAD.")
    static void atIsBad() {
        for (int what = 0; what < 3; what++) {
            int asked = what;
            for (int month : outside(0, 23)) {
                bad("at(" + month + ", 0, " + what + ")", x -> x.at(month, 0, asked));
            }
            for (int bush : outside(0, 2)) {
                bad("at(0, " + bush + ", " + what + ") of three", x -> x.at(0, bush, asked));
            }
        }
        for (int what : outside(0, 2)) {
            bad("at(0, 0, " + what + ")", x -> x.at(0, 0, what));
        }
        refused("at(0, 0, 0) of none", GorseGold::new, x -> x.at(0, 0, 0), GorseGold.BAD, 0);
    }

    // ---- Promise 13

    @Sentence(under = "Promise 13: hill", says = "YELLOW (what = 0), BELIEF (1), how many SPARKS SEEM to be (2).")
    static void hillTellsTheFirstAndTheLastMonth() {
        GorseGold x = Due.gold("ca9;cg7", "");
        Due.events(x, "p:23:0 p:0:1 r:23:0");
        is("hill(0, 0)", x.hill(0, 0), 9);
        is("hill(0, 1)", x.hill(0, 1), 48);
        is("hill(0, 2)", x.hill(0, 2), 16);
        is("hill(23, 0)", x.hill(23, 0), 0);
        is("hill(23, 1)", x.hill(23, 1), 2);
        is("hill(23, 2)", x.hill(23, 2), 9);
        is("hill(0, 2) of none", new GorseGold().hill(0, 2), 0);
    }

    @Sentence(under = "Promise 13: hill", says = "BAD.")
    static void hillIsBad() {
        for (int what = 0; what < 3; what++) {
            int asked = what;
            for (int month : outside(0, 23)) {
                bad("hill(" + month + ", " + what + ")", x -> x.hill(month, asked));
            }
        }
        for (int what : outside(0, 2)) {
            bad("hill(0, " + what + ")", x -> x.hill(0, what));
        }
    }

    // ---- Promises 14 to 17

    @Sentence(under = "Promise 14: bare", says = "BARE, as bits.")
    static void bareIsNoBitAndAll24() {
        is("no MONTH", Due.gold("ca1;cg1", "").bare(), 0);
        is("all MONTHS", new GorseGold().bare(), 0xFFFFFF);
        GorseGold x = Due.gold("ca1;cg1", "");
        Due.events(x, "r:0:0 r:23:0");
        is("the first and the last", x.bare(), 1 | 1 << 23);
    }

    @Sentence(under = "Promise 15: run", says = "RUN; NONE.")
    static void runIsIn0Or23OrNone() {
        GorseGold x = new GorseGold();
        x.set(1, 49);
        is("in the first", x.run(), 0);
        x.set(1, 3);
        is("in the last", x.run(), 23);
        x.set(1, 2);
        is("in none", x.run(), GorseGold.NONE);
    }

    @Sentence(under = "Promise 16: fake", says = "FAKE, as bits.")
    static void fakeIsNoBitAndAll12() {
        GorseGold x = Due.gold("cg1", "a0;a0;a0;a0;a0;a0;a0;a0;a0;a0;a0;a0");
        is("no LOOK", x.fake(), 0);
        x.event(3, 0, 0);
        is("all LOOKS", x.fake(), 0xFFF);
        x.wipe(1);
        is("no LOOKS", x.fake(), 0);
        is("no BUSHES", Due.gold("", "a0").fake(), 0);
    }

    @Sentence(under = "Promise 17: last", says = "LAST: which (what = 0), in how many (1); NONE.")
    static void lastOfNoBushesIsNone() {
        is("last(0)", new GorseGold().last(0), GorseGold.NONE);
        is("last(1)", new GorseGold().last(1), GorseGold.NONE);
        GorseGold x = Due.gold("dl1", "");
        is("last(0) of one", x.last(0), 0);
        is("last(1) of one", x.last(1), 6);
        x.undo(0);
        is("last(0) of a fault", x.last(0), GorseGold.NONE);
        is("last(1) of a fault", x.last(1), GorseGold.NONE);
    }

    @Sentence(under = "Promise 17: last", says = "BAD.")
    static void lastIsBad() {
        for (int what : outside(0, 1)) {
            bad("last(" + what + ")", x -> x.last(what));
            refused("last(" + what + ") of none", GorseGold::new, x -> x.last(what), GorseGold.BAD, 0);
        }
    }
}
