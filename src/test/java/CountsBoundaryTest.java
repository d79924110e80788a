import java.math.BigInteger;

/** What the document says of refusals, of 512 calls, of constants, and of the ends of promises 35 and 36. */
public final class CountsBoundaryTest extends Boundaries {
    private static final String TEN_BUSHES = "ca9;ea9;da9;ca9;ea9;da9;ca9;ea9;da9;ca9";
    private static final String TWELVE_LOOKS = "a0;a1;a2;a3;a4;a5;a6;a7;a8;a9;x0;x9";
    private static final String EIGHT_EVENTS = "f:0:0 f:0:1 f:0:2 f:0:3 g:23:4 r:6:0 p:6:9 f:12:9";

    public static void main(String[] args) {
        run(CountsBoundaryTest.class);
    }

    /** All that can be full is full; every sheet is lost; a SIZE was found. */
    private static GorseGold full() {
        GorseGold x = Due.gold(TEN_BUSHES, TWELVE_LOOKS, EIGHT_EVENTS);
        for (int i = 0; i < 8; i++) {
            x.seen(i, i, i % 5);
        }
        x.sheet(0, 0, -1);
        return x;
    }

    // ---- What it is, The public face

    @Sentence(under = "What it is", says = "An object is used for at most 512 calls after it has been made")
    static void the512thCallIsAsGoodAsTheFirst() {
        GorseGold x = new GorseGold();
        for (int i = 0; i < 255; i++) {
            is("type", x.type(0, 'c'), 1);
            is("undo", x.undo(0), 0);
        }
        is("the 511th call", x.count(2), 0);
        is("the 512th call", x.digest(), new GorseGold().digest());
    }

    @Sentence(under = "What it is", says = "An object is used for at most 512 calls after it has been made")
    static void thereMayBe512OfTheDearestCall() {
        GorseGold x = new GorseGold();
        Due.type(x, 0, TEN_BUSHES);
        Due.type(x, 1, TWELVE_LOOKS);
        Due.events(x, EIGHT_EVENTS);
        long first = x.digest();
        for (int calls = 39 + 35 + 8 + 2; calls <= 512; calls++) {
            is("digest() as call " + calls, x.digest(), first);
        }
    }

    @Sentence(under = "The public face", says = "public static final int NONE = -1, BAD = -2, NOT = -3, FULL = -4;")
    static void constantsAreAsTold() {
        is("NONE", GorseGold.NONE, -1);
        is("BAD", GorseGold.BAD, -2);
        is("NOT", GorseGold.NOT, -3);
        is("FULL", GorseGold.FULL, -4);
    }

    // ---- Terms: refusals

    @Sentence(under = "Terms",
        says = "Refusals, the first that fits, in the order told at each act: BAD -2 (a number not as told, no such thing), NULL, NOT -3 (as told), FULL -4, other FINDINGS.")
    static void theFirstRefusalThatFitsIsAnswered() {
        refused("type, BAD ahead of FULL", CountsBoundaryTest::full, x -> x.type(0, 256), -2, 0);
        refused("type, FULL", CountsBoundaryTest::full, x -> x.type(0, 'c'), -4, 0);
        refused("undo, BAD ahead of NOT", GorseGold::new, x -> x.undo(2), -2, 0);
        refused("undo, NOT", GorseGold::new, x -> x.undo(1), -3, 0);
        refused("event, BAD ahead of FULL", CountsBoundaryTest::full, x -> x.event(0, 0, 10), -2, 0);
        refused("event, FULL", CountsBoundaryTest::full, x -> x.event(0, 0, 9), -4, 0);
        refused("seen, BAD ahead of FULL", CountsBoundaryTest::full, x -> x.seen(0, 0, 5), -2, 0);
        refused("seen, FULL", CountsBoundaryTest::full, x -> x.seen(0, 0, 4), -4, 0);
        refused("read, NULL, though EVENTS are full", CountsBoundaryTest::full, x -> x.read(0), -11, 1);
        refused("sheet, BAD ahead of SIZE", Boundaries::rich, x -> x.sheet(0, 3, -1), -2, 0);
        refused("lay, BAD ahead of NULL", Boundaries::rich, x -> x.lay(3, 3, 9, 0), -2, 0);
        refused("lay, NULL ahead of CAST and INDEX", Boundaries::rich, x -> x.lay(3, 2, 9, 0), -11, 1);
        refused("lay, CAST ahead of INDEX", Boundaries::rich, x -> x.lay(0, 2, 9, 0), -13, 3);
        refused("lay, INDEX", Boundaries::rich, x -> x.lay(0, 0, 9, 0), -12, 2);
        refused("copy, BAD ahead of NULL", Boundaries::rich, x -> x.copy(3, 9, 4, 9, 9), -2, 0);
        refused("copy, NULL ahead of INDEX", Boundaries::rich, x -> x.copy(0, 9, 3, 9, 9), -11, 1);
        refused("copy, STORE ahead of INDEX", Boundaries::rich, x -> x.copy(0, 9, 1, 9, 9), -14, 4);
        refused("copy, INDEX", Boundaries::rich, x -> x.copy(0, 9, 0, 9, 9), -12, 2);
    }

    @Sentence(under = "Terms", says = "They change nothing (FINDINGS but count() 8).")
    static void manyRefusalsInARowChangeNothing() {
        refused("one of each", Boundaries::rich, x -> {
            x.type(0, -1);
            x.wipe(2);
            x.undo(-1);
            x.set(0, 101);
            x.set(1, 51);
            x.event(4, 0, 0);
            x.read(4);
            x.seen(0, 0, 5);
            x.sheet(4, 0, 1);
            x.lose(-1);
            x.lay(0, 3, 0, 1);
            x.copy(4, 0, 0, 0, 1);
            x.write(4);
            return x.count(9);
        }, -2, 0);
        refused("one of each FINDING", Boundaries::rich, x -> {
            x.read(3);
            x.lose(3);
            x.write(3);
            x.lay(1, 1, 3, 1);
            x.get(1, 1, 3);
            x.lay(1, 2, 0, 1);
            x.sheet(1, 1, -1);
            return x.copy(0, 0, 1, 0, 1);
        }, -14, 4);
    }

    // ---- Promise 35

    private static void countsAre(String told, GorseGold x, int... want) {
        for (int what = 0; what < want.length; what++) {
            is(told + ": count(" + what + ")", x.count(what), want[what]);
        }
    }

    @Sentence(under = "Promise 35: count",
        says = "0 BUSHES, 1 LOOKS, 2, 3 bytes of texts, 4 EVENTS, 5 BARE MONTHS, 6 all YELLOW of all MONTHS together, 7 SEEN")
    static void countsAreOfNothingAndOfAllThereCanBe() {
        countsAre("a new object", new GorseGold(), 0, 0, 0, 0, 0, 24, 0, 0, 0);
        GorseGold x = Due.gold("ca9;ca9;ca9;ca9;ca9;ca9;ca9;ca9;ca9;ca9", TWELVE_LOOKS);
        for (int i = 0; i < 8; i++) {
            x.event(3, 0, 0);
            x.seen(0, 0, 0);
        }
        countsAre("a full one", x, 10, 12, 39, 35, 8, 12, 90 * 12, 8, 0);
        x.undo(0);
        x.undo(1);
        countsAre("one with faults", x, 0, 0, 38, 34, 8, 24, 0, 8, 0);
        countsAre("no BARE MONTH", Due.gold("ca1;cg2", ""), 2, 0, 7, 0, 0, 0, 36, 0, 0);
    }

    @Sentence(under = "Promise 35: count",
        says = "0 BUSHES, 1 LOOKS, 2, 3 bytes of texts, 4 EVENTS, 5 BARE MONTHS, 6 all YELLOW of all MONTHS together, 7 SEEN")
    static void countsAreOfWhatIsThereNow() {
        GorseGold x = Due.gold("ca9", "");
        is("all YELLOW, asked first", x.count(6), 108);
        x.event(1, 0, 0);
        is("all YELLOW behind a goat", x.count(6), 90);
        is("BARE MONTHS behind a goat", x.count(5), 14);
        x.back();
        is("all YELLOW once it is undone", x.count(6), 108);
        Due.type(x, 0, ";ca9");
        is("all YELLOW of one more", x.count(6), 216);
        x.wipe(0);
        is("all YELLOW of none", x.count(6), 0);
    }

    @Sentence(under = "Promise 35: count", says = "8 the number of the latest FINDING (0 before any)")
    static void count8IsTheLatestFindingAnd0BeforeAny() {
        GorseGold x = new GorseGold();
        is("before any", x.count(8), 0);
        x.type(2, 0);
        x.undo(0);
        x.back();
        x.sheet(0, 0, 61);
        is("behind other refusals", x.count(8), 0);
        x.lose(0);
        is("NULL", x.count(8), 1);
        x.sheet(0, 0, 1);
        is("what is well is no FINDING", x.count(8), 1);
        x.sheet(0, 0, -1);
        is("SIZE", x.count(8), 5);
        x.get(0, 1, 0);
        is("CAST", x.count(8), 3);
        x.get(0, 0, 1);
        is("INDEX", x.count(8), 2);
        x.sheet(1, 1, 1);
        x.copy(0, 0, 1, 0, 1);
        is("STORE", x.count(8), 4);
        x.read(2);
        is("NULL again", x.count(8), 1);
        x.count(9);
        x.type(2, 0);
        is("behind BAD", x.count(8), 1);
    }

    @Sentence(under = "Promise 35: count", says = "BAD.")
    static void countIsBad() {
        for (int what : outside(0, 8)) {
            bad("count(" + what + ")", x -> x.count(what));
        }
    }

    // ---- Promise 36

    private static BigInteger mixed(BigInteger h, long... values) {
        for (long v : values) {
            h = h.multiply(BigInteger.valueOf(31)).add(BigInteger.valueOf(v));
        }
        return h;
    }

    /** By numbers that do not wrap, of which the lowest 64 bits are taken in the end. */
    private static long digestByHand(GorseGold x) {
        BigInteger h = BigInteger.valueOf(17);
        for (int what = 0; what <= 7; what++) {
            h = mixed(h, x.count(what));
        }
        h = mixed(h, x.fault(0), x.fault(1));
        for (int month = 0; month < 24; month++) {
            h = mixed(h, x.hill(month, 0), x.hill(month, 1), x.hill(month, 2));
        }
        for (int i = 0; i < 12; i++) {
            h = mixed(h, x.look(i, 0), x.look(i, 1));
        }
        for (int b = 0; b < x.count(0); b++) {
            h = mixed(h, x.bush(b, 0), x.bush(b, 1), x.bush(b, 2));
            for (int month : new int[] {0, 6, 13, 23}) {
                h = mixed(h, x.at(month, b, 0), x.at(month, b, 1), x.at(month, b, 2));
            }
            h = mixed(h, x.was(b, 0), x.was(b, 1), x.ask(b));
        }
        h = mixed(h, x.bare(), x.run(), x.fake(), x.last(0), x.last(1), x.plant(0), x.plant(1), x.plant(2));
        h = mixed(h, x.send(0), x.send(1), x.send(2), x.save(-1), x.save(0), x.deal(0), x.deal(1), x.deal(2));
        h = mixed(h, x.never(), x.luck(5, 6, 0), x.luck(5, 6, 1), x.luck(5, 13, 0), x.luck(5, 13, 1));
        return mixed(h, x.century(7, 6, 0), x.century(7, 6, 1)).longValue();
    }

    @Sentence(under = "Promise 36: digest",
        says = "of BUSHES bush() 0 to 2, of MONTHS 0, 6, 13, 23 at(the MONTH, it, 0 to 2), then was() 0, 1, ask()")
    static void digestIsOfTheBushesThatThereAre() {
        for (int many = 0; many <= 10; many++) {
            String bushes = TEN_BUSHES.substring(0, Math.max(0, 4 * many - 1));
            GorseGold x = Due.gold(bushes, "a0", EIGHT_EVENTS);
            is("of " + many, x.digest(), digestByHand(x));
        }
    }

    @Sentence(under = "Promise 36: digest",
        says = "bare(), run(), fake(), last() 0, 1, plant() 0 to 2, send() 0 to 2, save(NONE), save(0), deal() 0 to 2, never(), luck(5, 6), above, below, luck(5, 13), above, below, century(7, 6, 0 and 1)")
    static void digestIsOfAnswersThatAreNone() {
        GorseGold x = Due.gold("", "x0");
        is("without BUSHES", x.digest(), digestByHand(x));
        x = Due.gold("ca1;cg1", "");
        x.set(1, 0);
        is("without a RUN, an EVENT, a BARE MONTH", x.digest(), digestByHand(x));
        x = Due.gold("ca1;cg1", "", "g:1:0 g:9:1 g:6:1 g:13:0");
        is("where no two EVENTS are enough", x.digest(), digestByHand(x));
    }

    @Sentence(under = "Promise 36: digest",
        says = "bare(), run(), fake(), last() 0, 1, plant() 0 to 2, send() 0 to 2, save(NONE), save(0), deal() 0 to 2, never(), luck(5, 6), above, below, luck(5, 13), above, below, century(7, 6, 0 and 1)")
    static void digestIsOfAnswersThatAreNotLikeTheirNeighbours() {
        GorseGold x = Due.gold("ca9;cg8", "g0;h0", "p:6:0 g:12:0 g:6:1");
        holds("FAKE", x.fake() != 0);
        holds("save(0) and save(1)", x.save(0) == 1 && x.save(1) == 2);
        holds("luck in MONTHS 5 and 6", x.luck(5, 5, 1) != x.luck(5, 6, 1));
        holds("luck in MONTHS 13 and 14", x.luck(5, 13, 1) != x.luck(5, 14, 1));
        is("with these", x.digest(), digestByHand(x));
        for (int doubt : new int[] {38, 45}) {
            x = Due.gold("ca9", "b0;e0");
            x.set(1, doubt);
            int fewer = x.century(7, 5, 1);
            int more = x.century(7, 7, 1);
            holds("RUN of 6 EVENTS of a century", x.century(7, 6, 1) != (doubt == 38 ? more : fewer));
            is("by DOUBT " + doubt, x.digest(), digestByHand(x));
        }
    }

    @Sentence(under = "Promise 36: digest", says = "as longs that wrap.")
    static void digestWraps() {
        is("of nothing", new GorseGold().digest(), digestByHand(new GorseGold()));
        is("of something of everything", rich().digest(), digestByHand(rich()));
        is("of all there can be", full().digest(), digestByHand(full()));
        GorseGold x = Due.gold("dl1", "x0;", "g:23:0");
        is("of a fault", x.digest(), digestByHand(x));
    }

    @Sentence(under = "Promise 36: digest",
        says = "h is 17; h becomes 31 h and each of: count() 0 to 7; of texts fault(); of MONTHS 0 to 23 hill() 0 to 2; of LOOKS 0 to 11 look() 0, 1")
    static void digestOfANewObjectIsAsByTheDocument() {
        BigInteger h = mixed(BigInteger.valueOf(17), 0, 0, 0, 0, 0, 24, 0, 0, -1, -1);
        for (int month = 0; month < 24; month++) {
            h = mixed(h, 0, 48 - 2 * month, 0);
        }
        for (int i = 0; i < 12; i++) {
            h = mixed(h, -1, -1);
        }
        h = mixed(h, 0xFFFFFF, 15, 0, -1, -1, 0, 0, 12, -1, -1, -1, -1, -1, 0, 0, 0);
        h = mixed(h, 0, 1, 1, 1, 1, 24, 15);
        is("digest()", new GorseGold().digest(), h.longValue());
    }

    @Sentence(under = "Promise 36: digest",
        says = "h is 17; h becomes 31 h and each of: count() 0 to 7; of texts fault(); of MONTHS 0 to 23 hill() 0 to 2; of LOOKS 0 to 11 look() 0, 1")
    static void digestHasNoSheetsNoFindingsAndChangesNothing() {
        GorseGold x = Due.gold("ca1", "a0", "g:0:0");
        long before = x.digest();
        x.sheet(0, 0, 5);
        x.lay(0, 0, 0, 1);
        x.lose(1);
        is("with a sheet and a FINDING", x.digest(), before);
        is("count(8)", x.count(8), 1);
        refused("digest()", () -> Due.gold("ca1", "a0", "g:0:0"), GorseGold::digest, before, 0);
    }
}
