/** What the document says of the ends of SEEN, NEVER, BEGAN, KIND, ASK, and of promises 22 to 26. */
public final class SightsBoundaryTest extends Boundaries {
    private static final String[] HILLS = {"ca1;eg5;dl9", "dl1", "ca1;ca1;ca1;ca1;ca1;ca1;ca1;ca1;ca1;el1"};
    private static final String[] EVENTS = {"g:0:0 r:6:0 f:12:2 p:3:1", "f:0:0 f:0:0", "r:11:9 g:23:0 f:2:9 r:23:3"};

    /** What may stand in place of a bush's month, and of its kind, in the order of their bits. */
    private static final String[] SIGNS = {"abcdefghijkl", "ced"};

    public static void main(String[] args) {
        run(SightsBoundaryTest.class);
    }

    private static GorseGold hill(String bushes, String events) {
        return Due.gold(bushes, "", events);
    }

    /** Sights that are told as month, bush and what it is: "0:1:4 23:9:0". */
    private static void see(GorseGold x, String sights) {
        for (String sight : sights.split(" ")) {
            String[] parts = sight.split(":");
            x.seen(Integer.parseInt(parts[0]), Integer.parseInt(parts[1]), Integer.parseInt(parts[2]));
        }
    }

    private static boolean comesOut(GorseGold x, String sights) {
        for (String sight : sights.split(" ")) {
            String[] parts = sight.split(":");
            // at() of a BUSH that there is not is BAD, which is none of 0 to 4
            if (x.at(Integer.parseInt(parts[0]), Integer.parseInt(parts[1]), 0) != Integer.parseInt(parts[2])) {
                return false;
            }
        }
        return true;
    }

    /** What is so at the ends of the months, of the first and of the last bush, as sights. */
    private static String truths(GorseGold x) {
        int last = x.count(0) - 1;
        StringBuilder told = new StringBuilder();
        for (int month : new int[] {0, 12, 23}) {
            told.append(month).append(":0:").append(x.at(month, 0, 0)).append(' ');
            told.append(month).append(':').append(last).append(':').append(x.at(month, last, 0)).append(' ');
        }
        return told.toString().trim();
    }

    private static String withBush(String bushes, int bush, int place, char sign) {
        StringBuilder s = new StringBuilder(bushes);
        s.setCharAt(4 * bush + place, sign);
        return s.toString();
    }

    /** All of them come out so, so that any other in place of one would be seen. */
    private static GorseGold eightSeen() {
        GorseGold x = hill(HILLS[0], EVENTS[0]);
        see(x, "0:0:3 6:1:4 12:2:2 23:0:0 22:1:0 5:0:1 1:0:3 13:2:2");
        return x;
    }

    // ---- SEEN

    @Sentence(under = "Terms", says = "SEEN, 8 at most")
    static void seenAreEightAtMost() {
        GorseGold x = new GorseGold();
        for (int n = 1; n <= 8; n++) {
            is("seen " + n, x.seen(0, 0, 0), n);
        }
        is("a ninth", x.seen(0, 0, 0), GorseGold.FULL);
        is("count(7)", x.count(7), 8);
    }

    @Sentence(under = "Terms", says = "SEEN, 8 at most")
    static void theEighthSeenCounts() {
        GorseGold x = hill("ca1", "g:0:0");
        see(x, "12:0:1 12:0:1 12:0:1 12:0:1 12:0:1 12:0:1 12:0:1");
        is("never() by seven", x.never(), 1);
        x.seen(0, 0, 3);
        is("never() by eight", x.never(), 0);
    }

    @Sentence(under = "Terms", says = "in a MONTH a BUSH (0 to 9; one that there is not: never) was so (0 to 4).")
    static void seenTakesTheLeastAndTheGreatest() {
        for (int is = 0; is <= 4; is++) {
            is("seen(0, 0, " + is + ")", new GorseGold().seen(0, 0, is), 1);
            is("seen(23, 9, " + is + ")", new GorseGold().seen(23, 9, is), 1);
        }
        for (int bush = 0; bush <= 9; bush++) {
            is("seen(0, " + bush + ", 0)", new GorseGold().seen(0, bush, 0), 1);
        }
    }

    @Sentence(under = "Terms", says = "in a MONTH a BUSH (0 to 9; one that there is not: never) was so (0 to 4).")
    static void aBushThatThereIsNotNeverComesOut() {
        for (int is = 0; is <= 4; is++) {
            GorseGold x = hill("ca1", "p:0:0");
            x.seen(0, 1, is);
            is("never() by " + is, x.never(), 0);
            is("was(0, 0) by " + is, x.was(0, 0), 0);
            is("was(0, 1) by " + is, x.was(0, 1), 0);
        }
        GorseGold x = hill("ca1", "p:0:0");
        x.seen(0, 1, 1);
        Due.type(x, 0, ";ca1");
        is("never() once it is there", x.never(), 1);
        is("was(0, 0) once it is there", x.was(0, 0), 4095);
    }

    @Sentence(under = "Promise 22: seen", says = "SEEN more: how many.")
    static void seenAnswersHowMany() {
        GorseGold x = new GorseGold();
        for (int n = 1; n <= 8; n++) {
            is("seen", x.seen(3 * n - 1, n, n % 5), n);
            is("count(7)", x.count(7), n);
        }
    }

    @Sentence(under = "Promise 22: seen", says = "BAD; FULL.")
    static void seenIsBad() {
        for (int month : outside(0, 23)) {
            bad("seen(" + month + ", 0, 0)", x -> x.seen(month, 0, 0));
        }
        for (int bush : outside(0, 9)) {
            bad("seen(0, " + bush + ", 0)", x -> x.seen(0, bush, 0));
        }
        for (int is : outside(0, 4)) {
            bad("seen(0, 0, " + is + ")", x -> x.seen(0, 0, is));
        }
    }

    @Sentence(under = "Promise 22: seen", says = "BAD; FULL.")
    static void seenIsFull() {
        holds("all eight come out so", eightSeen().was(0, 0) != 0);
        refused("seen(0, 0, 0)", SightsBoundaryTest::eightSeen, x -> x.seen(0, 0, 0), GorseGold.FULL, 0);
        refused("seen(23, 9, 4)", SightsBoundaryTest::eightSeen, x -> x.seen(23, 9, 4), GorseGold.FULL, 0);
    }

    @Sentence(under = "Promise 22: seen", says = "BAD; FULL.")
    static void seenIsBadAheadOfFull() {
        refused("seen(24, 0, 0)", SightsBoundaryTest::eightSeen, x -> x.seen(24, 0, 0), GorseGold.BAD, 0);
        refused("seen(0, 10, 0)", SightsBoundaryTest::eightSeen, x -> x.seen(0, 10, 0), GorseGold.BAD, 0);
        refused("seen(0, 0, 5)", SightsBoundaryTest::eightSeen, x -> x.seen(0, 0, 5), GorseGold.BAD, 0);
    }

    @Sentence(under = "Promise 23: forget", says = "All SEEN are forgotten: how many.")
    static void forgetOfNoneAndOfEight() {
        GorseGold x = eightSeen();
        holds("all eight come out so", x.never() != 0);
        is("forget() of eight", x.forget(), 8);
        is("count(7)", x.count(7), 0);
        is("forget() of none", x.forget(), 0);
        is("nothing seen: all EVENTS may never have been", x.never(), 15);
        is("there is room again", x.seen(0, 0, 0), 1);
        is("EVENTS stay", x.count(4), 4);
    }

    // ---- NEVER

    @Sentence(under = "Terms",
        says = "NEVER: EVENTS each of which, had it alone not been, makes all that was SEEN come out so, as bits.")
    static void neverIsOfEventsLeftOutAlone() {
        GorseGold x = hill("ca1", "g:0:0 g:0:0");
        x.seen(0, 0, 3);
        is("either may never have been", x.never(), 3);
        x.forget();
        x.seen(0, 0, 1);
        is("it takes both", x.never(), 0);
        x.back();
        is("it takes one", x.never(), 1);
        x.seen(0, 0, 3);
        is("not all come out so", x.never(), 0);
        x = hill("ca1", "g:0:0 p:0:0");
        x.seen(0, 0, 3);
        x.seen(12, 0, 1);
        is("where all is so as it is, those without effect", x.never(), 2);
    }

    @Sentence(under = "Terms",
        says = "NEVER: EVENTS each of which, had it alone not been, makes all that was SEEN come out so, as bits.")
    static void neverIsAsWithTheOthersAlone() {
        for (int h = 0; h < 3; h++) {
            String[] told = EVENTS[h].split(" ");
            for (int i = 0; i < told.length; i++) {
                neverIs(h, truths(hill(HILLS[h], Due.without(EVENTS[h], i))), told.length);
            }
            neverIs(h, truths(hill(HILLS[h], EVENTS[h])), told.length);
        }
    }

    private static void neverIs(int h, String sights, int many) {
        int want = 0;
        for (int i = 0; i < many; i++) {
            want |= comesOut(hill(HILLS[h], Due.without(EVENTS[h], i)), sights) ? 1 << i : 0;
        }
        GorseGold x = hill(HILLS[h], EVENTS[h]);
        see(x, sights);
        is("never() of " + HILLS[h] + " by " + sights, x.never(), want);
    }

    @Sentence(under = "Promise 24: never", says = "NEVER, as bits.")
    static void neverIsNoBitAndAllEight() {
        is("no EVENTS", new GorseGold().never(), 0);
        GorseGold x = hill("ca1", "g:0:0 g:1:0 g:2:0 g:3:0 p:0:0 r:0:0 f:9:9 f:20:0");
        is("nothing SEEN", x.never(), 255);
        x.seen(23, 0, 2);
        is("all but the last", x.never(), 127);
        x.seen(0, 0, 3);
        is("all but the first and the last", x.never(), 126);
        x = Due.gold("ca1", "");
        x.seen(0, 0, 1);
        is("SEEN, and no EVENTS", x.never(), 0);
    }

    // ---- BEGAN, KIND

    @Sentence(under = "Terms", says = "BEGAN of a BUSH: months (0 to 11), in place of its own, likewise, as bits.")
    static void beganIsMonthsInPlaceOfItsOwn() {
        wasIsAsWithOthersInPlace(0);
    }

    /** Of the first and the last bush of each hill, by what would be so with each other sign in place. */
    private static void wasIsAsWithOthersInPlace(int what) {
        for (int h = 0; h < 3; h++) {
            for (int bush : new int[] {0, Due.gold(HILLS[h], "").count(0) - 1}) {
                for (char sign : SIGNS[what].toCharArray()) {
                    String other = withBush(HILLS[h], bush, 1 - what, sign);
                    wasIs(h, bush, what, truths(hill(other, EVENTS[h])));
                }
            }
        }
    }

    private static void wasIs(int h, int bush, int what, String sights) {
        int want = 0;
        for (int i = 0; i < SIGNS[what].length(); i++) {
            String other = withBush(HILLS[h], bush, 1 - what, SIGNS[what].charAt(i));
            want |= comesOut(hill(other, EVENTS[h]), sights) ? 1 << i : 0;
        }
        GorseGold x = hill(HILLS[h], EVENTS[h]);
        see(x, sights);
        is("was(" + bush + ", " + what + ") of " + HILLS[h] + " by " + sights, x.was(bush, what), want);
    }

    @Sentence(under = "Terms", says = "BEGAN of a BUSH: months (0 to 11), in place of its own, likewise, as bits.")
    static void beganIsAllOrOneOrNone() {
        GorseGold x = Due.gold("ca1;ca1", "");
        is("nothing SEEN: all", x.was(0, 0), 4095);
        see(x, "11:0:1 10:0:0");
        is("month 11 alone", x.was(0, 0), 1 << 11);
        x.forget();
        see(x, "12:0:1 23:0:0");
        is("month 0 alone", x.was(0, 0), 1);
        x.seen(0, 0, 0);
        is("none", x.was(0, 0), 0);
        x.forget();
        x.seen(6, 1, 1);
        is("all SEEN count, of another BUSH too", x.was(0, 0), 0);
        is("of that BUSH", x.was(1, 0), Due.months(1, 6));
    }

    @Sentence(under = "Terms", says = "KIND of a BUSH: 0 c, 1 e, 2 d, in place of its own, likewise, as bits.")
    static void kindIsKindsInPlaceOfItsOwn() {
        wasIsAsWithOthersInPlace(1);
    }

    @Sentence(under = "Terms", says = "KIND of a BUSH: 0 c, 1 e, 2 d, in place of its own, likewise, as bits.")
    static void kindIsAllOrOneOrNone() {
        GorseGold x = Due.gold("da1;ca1", "");
        is("nothing SEEN: all", x.was(0, 1), 7);
        x.seen(5, 0, 1);
        is("in BLOOM in its sixth month: c", x.was(0, 1), 1);
        x.forget();
        see(x, "3:0:1 4:0:0");
        is("in BLOOM in its fourth, not in its fifth: e", x.was(0, 1), 2);
        x.forget();
        see(x, "2:0:1 3:0:0");
        is("in BLOOM in its third, not in its fourth: d", x.was(0, 1), 4);
        x.seen(3, 0, 1);
        is("none", x.was(0, 1), 0);
        x.forget();
        x.seen(3, 1, 0);
        is("all SEEN count, of another BUSH too", x.was(0, 1), 0);
        is("of that BUSH", x.was(1, 1), 4);
    }

    @Sentence(under = "Terms", says = "KIND of a BUSH: 0 c, 1 e, 2 d, in place of its own, likewise, as bits.")
    static void kindLastsByItsEvents() {
        GorseGold x = hill("ca1", "f:0:0 g:13:0 r:20:0");
        x.seen(8, 0, 2);
        is("BURNT for 9: all", x.was(0, 1), 7);
        x.seen(9, 0, 2);
        is("BURNT for 10: e, d", x.was(0, 1), 6);
        x.seen(15, 0, 3);
        is("EATEN for 3: d", x.was(0, 1), 4);
        x.forget();
        x.seen(20, 0, 4);
        is("BLACK for 1: c, e", x.was(0, 1), 3);
        x.seen(21, 0, 4);
        is("BLACK for 2: e", x.was(0, 1), 2);
    }

    @Sentence(under = "Promise 25: was", says = "BEGAN (what = 0), KIND (1), as bits.")
    static void wasChangesNoBush() {
        GorseGold x = hill("ca1;el9", "g:0:0");
        x.seen(0, 0, 3);
        x.was(0, 0);
        x.was(0, 1);
        x.was(1, 0);
        x.was(1, 1);
        holds("all is as it was", Portrait.of(x).equals(portraitOfTheSame()));
    }

    private static String portraitOfTheSame() {
        GorseGold x = hill("ca1;el9", "g:0:0");
        x.seen(0, 0, 3);
        return Portrait.of(x);
    }

    @Sentence(under = "Promise 25: was", says = "BAD.")
    static void wasIsBad() {
        for (int bush : outside(0, 2)) {
            bad("was(" + bush + ", 0) of three", x -> x.was(bush, 0));
            bad("was(" + bush + ", 1) of three", x -> x.was(bush, 1));
        }
        for (int what : outside(0, 1)) {
            bad("was(0, " + what + ")", x -> x.was(0, what));
        }
        refused("was(0, 0) of none", GorseGold::new, x -> x.was(0, 0), GorseGold.BAD, 0);
        refused("was(0, 1) of a fault", () -> Due.gold("ca1;", ""), x -> x.was(0, 1), GorseGold.BAD, 0);
    }

    // ---- ASK

    @Sentence(under = "Terms",
        says = "ASK of a BUSH: the MONTH in which the greatest number of those months of BEGAN by which it is alike is least, of like ones the least.")
    static void askIsTheLeastMonthOfLikeOnes() {
        GorseGold x = Due.gold("ca1;da1", "");
        is("6 and 6 in every MONTH", x.ask(0), 0);
        is("3 and 9 in every MONTH", x.ask(1), 0);
        x.event(1, 0, 0);
        is("12 in MONTHS 0 and 1", x.ask(0), 2);
        x = hill("ca1", "f:0:0 f:9:0 f:18:0");
        is("BURNT in all: 12 in every MONTH", x.ask(0), 0);
        x.back();
        is("BURNT ahead of MONTH 18", x.ask(0), 18);
        x = hill("ea1", "f:0:0 g:12:0 g:14:0 g:16:0 g:18:0 g:20:0 r:22:0");
        is("BLACK in the last two as well", x.ask(0), 0);
        x.back();
        is("open in the last two", x.ask(0), 22);
        x.event(2, 21, 9);
        is("open in the last", x.ask(0), 23);
    }

    @Sentence(under = "Terms",
        says = "ASK of a BUSH: the MONTH in which the greatest number of those months of BEGAN by which it is alike is least, of like ones the least.")
    static void askOfOneMonthOrNoneIsMonth0() {
        GorseGold x = Due.gold("ca1", "");
        see(x, "11:0:1 10:0:0");
        is("one month of BEGAN", Integer.bitCount(x.was(0, 0)), 1);
        is("ask(0) of one", x.ask(0), 0);
        x.seen(10, 0, 1);
        is("no month of BEGAN", x.was(0, 0), 0);
        is("ask(0) of none", x.ask(0), 0);
    }

    @Sentence(under = "Terms",
        says = "ASK of a BUSH: the MONTH in which the greatest number of those months of BEGAN by which it is alike is least, of like ones the least.")
    static void askIsAsByTheMonthsInPlaceOfItsOwn() {
        for (int h = 0; h < 3; h++) {
            int last = Due.gold(HILLS[h], "").count(0) - 1;
            askIs(h, 0, "");
            askIs(h, last, "");
            for (int month = 0; month < 24; month++) {
                int state = hill(HILLS[h], EVENTS[h]).at(month, last, 0);
                askIs(h, last, month + ":" + last + ":" + state);
            }
        }
    }

    private static void askIs(int h, int bush, String sights) {
        GorseGold x = hill(HILLS[h], EVENTS[h]);
        if (!sights.isEmpty()) {
            see(x, sights);
        }
        int began = x.was(bush, 0);
        int best = -1;
        int least = 99;
        for (int month = 0; month < 24; month++) {
            int[] alike = new int[5];
            int greatest = 0;
            for (int begin = 0; begin < 12; begin++) {
                if ((began >> begin & 1) == 1) {
                    String other = withBush(HILLS[h], bush, 1, (char) ('a' + begin));
                    greatest = Math.max(greatest, ++alike[hill(other, EVENTS[h]).at(month, bush, 0)]);
                }
            }
            if (greatest < least) {
                least = greatest;
                best = month;
            }
        }
        is("ask(" + bush + ") of " + HILLS[h] + " by " + sights, x.ask(bush), best);
    }

    @Sentence(under = "Promise 26: ask", says = "ASK. BAD.")
    static void askIsBad() {
        for (int bush : outside(0, 2)) {
            bad("ask(" + bush + ") of three", x -> x.ask(bush));
        }
        bad("ask(9) of three", x -> x.ask(9));
        refused("ask(0) of none", GorseGold::new, x -> x.ask(0), GorseGold.BAD, 0);
        refused("ask(0) of a fault", () -> Due.gold("ca1;", ""), x -> x.ask(0), GorseGold.BAD, 0);
    }
}
