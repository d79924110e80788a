/** What the document says of the ends of texts, and of promises 1 to 8. */
public final class TextsBoundaryTest extends Boundaries {
    private static final String TEN_BUSHES = "ca1;eb2;dc3;cd4;ee5;df6;cg7;eh8;di9;el9";
    private static final String TWELVE_LOOKS = "a0;b1;c2;d3;e4;f5;g6;h7;i8;j9;k0;x9";

    public static void main(String[] args) {
        run(TextsBoundaryTest.class);
    }

    private static String told(String signs) {
        StringBuilder s = new StringBuilder("'");
        for (char c : signs.toCharArray()) {
            s.append(c > 32 && c < 127 ? String.valueOf(c) : "(" + (int) c + ")");
        }
        return s.append("'").toString();
    }

    private static GorseGold typed(int text, String signs) {
        GorseGold x = new GorseGold();
        Due.type(x, text, signs);
        return x;
    }

    private static void faultIs(int text, String signs, int want) {
        is("fault(" + text + ") of " + told(signs), typed(text, signs).fault(text), want);
    }

    /** Of all bytes only these may stand behind what is ahead. */
    private static void onlyThese(int text, String ahead, String these, String behind) {
        for (int b = 0; b <= 255; b++) {
            boolean may = these.indexOf((char) b) >= 0;
            faultIs(text, ahead + (char) b + behind, may ? GorseGold.NONE : ahead.length());
        }
    }

    private static void roomIs(int text, int room) {
        GorseGold x = new GorseGold();
        for (int n = 1; n <= room; n++) {
            is("type, byte " + n, x.type(text, 'x'), n);
        }
        is("type, one byte more", x.type(text, 'x'), GorseGold.FULL);
        is("bytes", x.count(2 + text), room);
        is("undo", x.undo(text), room - 1);
        is("type, the last byte again", x.type(text, 'y'), room);
        is("the other text is empty", x.count(3 - text), 0);
    }

    // ---- What it is

    @Sentence(under = "What it is", says = "a text of up to 39 bytes (text 0)")
    static void bushesHaveRoomFor39Bytes() {
        roomIs(0, 39);
    }

    @Sentence(under = "What it is", says = "10 at most (0 on)")
    static void bushesAreTenAtMostFrom0On() {
        GorseGold x = typed(0, TEN_BUSHES);
        is("count(0)", x.count(0), 10);
        is("the first one's kind", x.bush(0, 0), 0);
        is("the first one's SPARKS", x.bush(0, 2), 1);
        is("the last one's kind", x.bush(9, 0), 1);
        is("the last one's month", x.bush(9, 1), 11);
        is("the last one's SPARKS", x.bush(9, 2), 9);
        is("there is no eleventh", x.bush(10, 0), GorseGold.BAD);
    }

    @Sentence(under = "What it is", says = "with ; between them")
    static void bushesHaveSemicolonsBetweenThemOnly() {
        onlyThese(0, "ca1", ";", "ca1");
        onlyThese(0, TEN_BUSHES.substring(0, 35), ";", "ca1");
        faultIs(0, ";", 0);
        faultIs(0, ";ca1", 0);
        faultIs(0, "ca1;;ca1", 4);
        faultIs(0, "ca1ca1", 3);
        faultIs(0, "ca1;", 4);
    }

    @Sentence(under = "What it is", says = "c (common), e (early) or d (dwarf)")
    static void aBushIsOfOneOfThreeKinds() {
        onlyThese(0, "", "ced", "a1");
        onlyThese(0, "ca1;", "ced", "a1");
        onlyThese(0, TEN_BUSHES.substring(0, 36), "ced", "a1");
        for (int kind = 0; kind < 3; kind++) {
            is("kind " + kind, typed(0, "ced".charAt(kind) + "a1").bush(0, 0), kind);
        }
    }

    @Sentence(under = "What it is", says = "a letter a to l, the month of a year in which it begins to bloom (0 to 11)")
    static void aBushBeginsInMonths0To11() {
        onlyThese(0, "c", "abcdefghijkl", "1");
        onlyThese(0, "ca1;e", "abcdefghijkl", "1");
        onlyThese(0, TEN_BUSHES.substring(0, 37), "abcdefghijkl", "1");
        for (int month = 0; month < 12; month++) {
            is("month " + month, typed(0, "d" + (char) ('a' + month) + "1").bush(0, 1), month);
        }
    }

    @Sentence(under = "What it is", says = "and a figure, its SPARKS (1 to 9)")
    static void aBushHas1To9Sparks() {
        onlyThese(0, "ca", "123456789", "");
        onlyThese(0, "ca1;ea", "123456789", "");
        onlyThese(0, TEN_BUSHES.substring(0, 38), "123456789", "");
        for (int sparks = 1; sparks <= 9; sparks++) {
            is("SPARKS " + sparks, typed(0, "ca" + sparks).bush(0, 2), sparks);
        }
    }

    // ---- Terms

    @Sentence(under = "Terms", says = "LOOKS are a text of up to 35 bytes (text 1)")
    static void looksHaveRoomFor35Bytes() {
        roomIs(1, 35);
    }

    @Sentence(under = "Terms", says = "12 at most, with ; between them")
    static void looksAreTwelveAtMostWithSemicolonsBetweenThem() {
        GorseGold x = typed(1, TWELVE_LOOKS);
        is("count(1)", x.count(1), 12);
        is("the first one's BUSH", x.look(0, 1), 0);
        is("the last one's MONTH", x.look(11, 0), 23);
        is("the last one's BUSH", x.look(11, 1), 9);
        onlyThese(1, "a0", ";", "a0");
        onlyThese(1, TWELVE_LOOKS.substring(0, 32), ";", "a0");
        faultIs(1, ";", 0);
        faultIs(1, "a0;;a0", 3);
        faultIs(1, "a0;", 3);
    }

    @Sentence(under = "Terms", says = "a letter a to x, the MONTH (0 to 23)")
    static void aLookIsInMonths0To23() {
        onlyThese(1, "", "abcdefghijklmnopqrstuvwx", "0");
        onlyThese(1, "a0;", "abcdefghijklmnopqrstuvwx", "0");
        onlyThese(1, TWELVE_LOOKS.substring(0, 33), "abcdefghijklmnopqrstuvwx", "0");
        for (int month = 0; month < 24; month++) {
            is("MONTH " + month, typed(1, (char) ('a' + month) + "0").look(0, 0), month);
        }
    }

    @Sentence(under = "Terms", says = "a figure, the BUSH (0 to 9)")
    static void aLookIsAtBushes0To9() {
        onlyThese(1, "a", "0123456789", "");
        onlyThese(1, "a0;x", "0123456789", "");
        onlyThese(1, TWELVE_LOOKS.substring(0, 34), "0123456789", "");
        for (int bush = 0; bush < 10; bush++) {
            is("BUSH " + bush, typed(1, "a" + bush).look(0, 1), bush);
        }
    }

    @Sentence(under = "Terms", says = "The FAULT of a text is the place of the first byte with which it cannot go on")
    static void aFaultIsTheFirstByteThatCannotStand() {
        faultIs(0, "x", 0);
        faultIs(0, "xyz", 0);
        faultIs(0, "ca1;xyz", 4);
        faultIs(0, "c!!", 1);
        faultIs(0, "ca1;cz0,", 5);
        faultIs(0, "ca1;ca0;x", 6);
        faultIs(0, TEN_BUSHES.substring(0, 38) + "0", 38);
        faultIs(1, "0a", 0);
        faultIs(1, "ax;zz", 1);
        faultIs(1, "a0,", 2);
        faultIs(1, TWELVE_LOOKS.substring(0, 34) + "a", 34);
        GorseGold x = typed(0, "x");
        for (int n = 2; n <= 39; n++) {
            x.type(0, 'c');
            is("fault(0) of " + n + " bytes whose first is wrong", x.fault(0), 0);
        }
    }

    @Sentence(under = "Terms", says = "an empty one is well")
    static void anEmptyTextIsWell() {
        for (int text = 0; text < 2; text++) {
            GorseGold x = new GorseGold();
            is("a new one's fault", x.fault(text), GorseGold.NONE);
            x.type(text, 'z');
            is("a wrong one's fault", x.fault(text), 0);
            x.undo(text);
            is("an undone one's fault", x.fault(text), GorseGold.NONE);
            x.type(text, 'z');
            x.wipe(text);
            is("a wiped one's fault", x.fault(text), GorseGold.NONE);
        }
    }

    @Sentence(under = "Terms", says = "of one that is not ended, its end")
    static void aTextThatIsNotEndedHasItsFaultAtItsEnd() {
        for (int n = 1; n <= 39; n++) {
            faultIs(0, TEN_BUSHES.substring(0, n), n % 4 == 3 ? GorseGold.NONE : n);
        }
        for (int n = 1; n <= 35; n++) {
            faultIs(1, TWELVE_LOOKS.substring(0, n), n % 3 == 2 ? GorseGold.NONE : n);
        }
    }

    @Sentence(under = "Terms", says = "here also of the first byte of an eleventh BUSH")
    static void anEleventhBushNeverBegins() {
        GorseGold x = typed(0, TEN_BUSHES);
        for (int b = 0; b <= 255; b++) {
            is("type(0, " + b + ") behind ten", x.type(0, b), GorseGold.FULL);
        }
        is("fault(0)", x.fault(0), GorseGold.NONE);
        is("count(0)", x.count(0), 10);
    }

    @Sentence(under = "Terms", says = "of a thirteenth LOOK")
    static void aThirteenthLookNeverBegins() {
        GorseGold x = typed(1, TWELVE_LOOKS);
        for (int b = 0; b <= 255; b++) {
            is("type(1, " + b + ") behind twelve", x.type(1, b), GorseGold.FULL);
        }
        is("fault(1)", x.fault(1), GorseGold.NONE);
        is("count(1)", x.count(1), 12);
    }

    @Sentence(under = "Terms", says = "With a FAULT a text is as if it was empty.")
    static void bushesWithAFaultAreNone() {
        for (String signs : new String[] {"ca9;ca9;", "ca9;ca9;c", "ca9;ca9,", "xa9;ca9", "ca9;ca0"}) {
            GorseGold x = Due.gold(signs, "a0;b1");
            String of = " of " + told(signs);
            is("count(0)" + of, x.count(0), 0);
            is("count(1)" + of, x.count(1), 2);
            is("count(2)" + of, x.count(2), signs.length());
            is("bush(0, 0)" + of, x.bush(0, 0), GorseGold.BAD);
            is("at(0, 0, 0)" + of, x.at(0, 0, 0), GorseGold.BAD);
            is("hill(0, 0)" + of, x.hill(0, 0), 0);
            is("hill(0, 1)" + of, x.hill(0, 1), 48);
            is("hill(0, 2)" + of, x.hill(0, 2), 0);
            is("bare()" + of, x.bare(), 0xFFFFFF);
            is("last(0)" + of, x.last(0), GorseGold.NONE);
            is("send(0)" + of, x.send(0), GorseGold.NONE);
            is("was(0, 0)" + of, x.was(0, 0), GorseGold.BAD);
            is("ask(0)" + of, x.ask(0), GorseGold.BAD);
            is("century(1, 8, 0)" + of, x.century(1, 8, 0), 24);
        }
    }

    @Sentence(under = "Terms", says = "With a FAULT a text is as if it was empty.")
    static void looksWithAFaultAreNone() {
        for (String signs : new String[] {"a0;b0;", "a0;b0;c", "a0;b0,", "y0;b0", "a0;bb"}) {
            GorseGold x = Due.gold("ca9", signs);
            x.event(1, 0, 0);
            x.event(3, 0, 0);
            String of = " of " + told(signs);
            is("count(0)" + of, x.count(0), 1);
            is("count(1)" + of, x.count(1), 0);
            is("count(3)" + of, x.count(3), signs.length());
            is("look(0, 0)" + of, x.look(0, 0), GorseGold.NONE);
            is("look(0, 1)" + of, x.look(0, 1), GorseGold.NONE);
            is("hill(1, 1)" + of, x.hill(1, 1), 46);
            is("fake()" + of, x.fake(), 0);
        }
    }

    @Sentence(under = "Terms", says = "With a FAULT a text is as if it was empty.")
    static void aTextWhoseFaultIsUndoneIsAsItWas() {
        GorseGold x = Due.gold("ca9;eb8;", "a0;b1;");
        x.undo(0);
        x.undo(1);
        is("count(0)", x.count(0), 2);
        is("bush(1, 2)", x.bush(1, 2), 8);
        is("count(1)", x.count(1), 2);
        is("look(1, 0)", x.look(1, 0), 1);
    }

    // ---- Promise 1

    @Sentence(under = "Promise 1: A new object", says = "No BUSHES, no LOOKS, no EVENTS")
    static void aNewObjectHasNoBushesLooksEvents() {
        GorseGold x = new GorseGold();
        for (int what = 0; what <= 4; what++) {
            is("count(" + what + ")", x.count(what), 0);
        }
        is("count(5)", x.count(5), 24);
        is("count(6)", x.count(6), 0);
        is("count(7)", x.count(7), 0);
        is("bush(0, 0)", x.bush(0, 0), GorseGold.BAD);
        is("look(0, 0)", x.look(0, 0), GorseGold.NONE);
        is("back()", x.back(), GorseGold.NOT);
        is("forget()", x.forget(), 0);
    }

    @Sentence(under = "Promise 1: A new object", says = "all SHEETS are LOST.")
    static void aNewObjectHasNoSheets() {
        for (int s = 0; s < 4; s++) {
            GorseGold x = new GorseGold();
            is("count(8)", x.count(8), 0);
            is("lose(" + s + ")", x.lose(s), -11);
            is("count(8) behind it", x.count(8), 1);
        }
    }

    @Sentence(under = "Promise 1: A new object", says = "No BUSHES, no LOOKS, no EVENTS; all SHEETS are LOST.")
    static void objectsHaveNothingInCommon() {
        GorseGold other = rich();
        GorseGold x = new GorseGold();
        holdsNothing(x);
        is("the other one's events", other.count(4), 3);
    }

    private static void holdsNothing(GorseGold x) {
        holds("a second object is as new as the first",
            Portrait.of(x).equals(Portrait.of(new GorseGold())));
    }

    // ---- Promise 2

    @Sentence(under = "Promise 2: type", says = "A byte (0 to 255) comes behind a text: how many.")
    static void typeTakesBytes0To255() {
        for (int text = 0; text < 2; text++) {
            GorseGold x = new GorseGold();
            is("type(" + text + ", 0)", x.type(text, 0), 1);
            is("type(" + text + ", 255)", x.type(text, 255), 2);
            is("bytes", x.count(2 + text), 2);
        }
    }

    @Sentence(under = "Promise 2: type", says = "BAD; FULL.")
    static void typeIsBad() {
        for (int text : outside(0, 1)) {
            bad("type(" + text + ", 99)", x -> x.type(text, 99));
        }
        for (int b : outside(0, 255)) {
            bad("type(0, " + b + ")", x -> x.type(0, b));
            bad("type(1, " + b + ")", x -> x.type(1, b));
        }
    }

    private static GorseGold full() {
        return Due.gold(TEN_BUSHES, TWELVE_LOOKS);
    }

    @Sentence(under = "Promise 2: type", says = "BAD; FULL.")
    static void typeIsFull() {
        for (int b : new int[] {0, ';', '1', 'c', 255}) {
            refused("type(0, " + b + ")", TextsBoundaryTest::full, x -> x.type(0, b), GorseGold.FULL, 0);
            refused("type(1, " + b + ")", TextsBoundaryTest::full, x -> x.type(1, b), GorseGold.FULL, 0);
        }
    }

    @Sentence(under = "Promise 2: type", says = "BAD; FULL.")
    static void typeIsBadAheadOfFull() {
        for (int b : outside(0, 255)) {
            refused("type(0, " + b + ")", TextsBoundaryTest::full, x -> x.type(0, b), GorseGold.BAD, 0);
            refused("type(1, " + b + ")", TextsBoundaryTest::full, x -> x.type(1, b), GorseGold.BAD, 0);
        }
    }

    // ---- Promise 3

    @Sentence(under = "Promise 3: wipe", says = "A text is empty: how many bytes it had.")
    static void wipeOfAnEmptyAndOfAFullText() {
        GorseGold x = full();
        is("wipe(0) of a full one", x.wipe(0), 39);
        is("wipe(0) of an empty one", x.wipe(0), 0);
        is("count(0)", x.count(0), 0);
        is("the looks are still there", x.count(1), 12);
        is("wipe(1) of a full one", x.wipe(1), 35);
        is("wipe(1) of an empty one", x.wipe(1), 0);
        is("there is room again", x.type(0, 'c'), 1);
    }

    @Sentence(under = "Promise 3: wipe", says = "A text is empty: how many bytes it had.")
    static void wipeOfAFaultyTextCountsAllItsBytes() {
        GorseGold x = Due.gold("xx;c", "??");
        is("wipe(0)", x.wipe(0), 4);
        is("wipe(1)", x.wipe(1), 2);
    }

    @Sentence(under = "Promise 3: wipe", says = "BAD.")
    static void wipeIsBad() {
        for (int text : outside(0, 1)) {
            bad("wipe(" + text + ")", x -> x.wipe(text));
        }
    }

    // ---- Promise 4

    @Sentence(under = "Promise 4: undo", says = "The last byte of a text is undone: how many are left.")
    static void undoGoesDownTo0() {
        GorseGold x = full();
        for (int left = 38; left >= 0; left--) {
            is("undo(0)", x.undo(0), left);
        }
        for (int left = 34; left >= 0; left--) {
            is("undo(1)", x.undo(1), left);
        }
    }

    @Sentence(under = "Promise 4: undo", says = "BAD; NOT: it is empty.")
    static void undoOfAnEmptyTextIsNot() {
        refused("undo(0)", () -> Due.gold("", "a0"), x -> x.undo(0), GorseGold.NOT, 0);
        refused("undo(1)", () -> Due.gold("ca1", ""), x -> x.undo(1), GorseGold.NOT, 0);
    }

    @Sentence(under = "Promise 4: undo", says = "BAD; NOT: it is empty.")
    static void undoIsBad() {
        for (int text : outside(0, 1)) {
            bad("undo(" + text + ")", x -> x.undo(text));
            refused("undo(" + text + ") where both are empty", GorseGold::new, x -> x.undo(text),
                GorseGold.BAD, 0);
        }
    }

    // ---- Promise 5

    @Sentence(under = "Promise 5: fault", says = "The FAULT of a text; NONE.")
    static void faultIsNoneOfWhatIsWell() {
        GorseGold x = full();
        is("fault(0)", x.fault(0), GorseGold.NONE);
        is("fault(1)", x.fault(1), GorseGold.NONE);
        x.undo(0);
        is("fault(0) of 38 bytes", x.fault(0), 38);
        is("fault(1) as before", x.fault(1), GorseGold.NONE);
        x.undo(1);
        is("fault(1) of 34 bytes", x.fault(1), 34);
    }

    @Sentence(under = "Promise 5: fault", says = "BAD.")
    static void faultIsBad() {
        for (int text : outside(0, 1)) {
            bad("fault(" + text + ")", x -> x.fault(text));
        }
    }

    // ---- Promise 6

    @Sentence(under = "Promise 6: bush",
        says = "Its kind (what = 0: 0 c, 1 e, 2 d), the month (1), SPARKS (2) of a BUSH.")
    static void bushTellsTheLeastAndTheGreatest() {
        GorseGold x = typed(0, "ca1;el9;dl1");
        int[][] want = {{0, 0, 1}, {1, 11, 9}, {2, 11, 1}};
        for (int bush = 0; bush < 3; bush++) {
            for (int what = 0; what < 3; what++) {
                is("bush(" + bush + ", " + what + ")", x.bush(bush, what), want[bush][what]);
            }
        }
    }

    @Sentence(under = "Promise 6: bush", says = "BAD.")
    static void bushIsBad() {
        for (int bush : outside(0, 2)) {
            for (int what = 0; what < 3; what++) {
                int asked = what;
                bad("bush(" + bush + ", " + what + ") of three", x -> x.bush(bush, asked));
            }
        }
        for (int what : outside(0, 2)) {
            bad("bush(0, " + what + ")", x -> x.bush(0, what));
            bad("bush(2, " + what + ")", x -> x.bush(2, what));
        }
        bad("bush(9, 0) of three", x -> x.bush(9, 0));
        refused("bush(0, 0) of none", GorseGold::new, x -> x.bush(0, 0), GorseGold.BAD, 0);
        refused("bush(10, 0) of ten", TextsBoundaryTest::full, x -> x.bush(10, 0), GorseGold.BAD, 0);
    }

    // ---- Promise 7

    @Sentence(under = "Promise 7: look", says = "The MONTH (what = 0), the BUSH (1) of the i-th LOOK (0 to 11)")
    static void lookTellsTheFirstAndTheTwelfth() {
        GorseGold x = Due.gold("", "x9;b1;c2;d3;e4;f5;g6;h7;i8;j9;k0;a0");
        is("look(0, 0)", x.look(0, 0), 23);
        is("look(0, 1)", x.look(0, 1), 9);
        is("look(11, 0)", x.look(11, 0), 0);
        is("look(11, 1)", x.look(11, 1), 0);
    }

    @Sentence(under = "Promise 7: look", says = "NONE: there is none.")
    static void lookIsNoneWhereThereIsNone() {
        GorseGold x = Due.gold("", "a0;b1;c2");
        for (int i = 0; i < 12; i++) {
            is("look(" + i + ", 0) of three", x.look(i, 0), i < 3 ? i : GorseGold.NONE);
            is("look(" + i + ", 1) of three", x.look(i, 1), i < 3 ? i : GorseGold.NONE);
            is("look(" + i + ", 0) of none", new GorseGold().look(i, 0), GorseGold.NONE);
        }
    }

    @Sentence(under = "Promise 7: look", says = "BAD.")
    static void lookIsBad() {
        for (int i : outside(0, 11)) {
            bad("look(" + i + ", 0)", x -> x.look(i, 0));
            bad("look(" + i + ", 1)", x -> x.look(i, 1));
            refused("look(" + i + ", 0) of twelve", TextsBoundaryTest::full, x -> x.look(i, 0),
                GorseGold.BAD, 0);
        }
        for (int what : outside(0, 1)) {
            bad("look(0, " + what + ")", x -> x.look(0, what));
            bad("look(11, " + what + "), where there is none", x -> x.look(11, what));
        }
    }

    // ---- Promise 8

    @Sentence(under = "Terms", says = "FAITH (0 to 100; 50 at first)")
    static void faithIs0To100And50AtFirst() {
        GorseGold x = new GorseGold();
        is("set(0, 0)", x.set(0, 0), 50);
        is("set(0, 100)", x.set(0, 100), 0);
        is("set(0, 99)", x.set(0, 99), 100);
        is("BELIEF behind MONTH 0", x.hill(0, 1), 97);
        is("DOUBT as at first", x.set(1, 20), 20);
    }

    @Sentence(under = "Terms", says = "DOUBT (0 to 50; 20 at first)")
    static void doubtIs0To50And20AtFirst() {
        GorseGold x = new GorseGold();
        is("set(1, 0)", x.set(1, 0), 20);
        is("set(1, 50)", x.set(1, 50), 0);
        is("run() by 50", x.run(), 0);
        is("set(1, 49)", x.set(1, 49), 50);
        is("FAITH as at first", x.set(0, 50), 50);
    }

    @Sentence(under = "Promise 8: set", says = "FAITH (what = 0), DOUBT (1): what it was.")
    static void setAnswersWhatItWas() {
        GorseGold x = new GorseGold();
        is("set(0, 7)", x.set(0, 7), 50);
        is("set(0, 7) again", x.set(0, 7), 7);
        is("set(1, 8)", x.set(1, 8), 20);
        is("set(1, 8) again", x.set(1, 8), 8);
        is("set(0, 0)", x.set(0, 0), 7);
    }

    @Sentence(under = "Promise 8: set", says = "BAD.")
    static void setIsBad() {
        for (int what : outside(0, 1)) {
            bad("set(" + what + ", 0)", x -> x.set(what, 0));
        }
        for (int v : outside(0, 100)) {
            bad("set(0, " + v + ")", x -> x.set(0, v));
        }
        for (int v : outside(0, 50)) {
            bad("set(1, " + v + ")", x -> x.set(1, v));
        }
        bad("set(1, 100)", x -> x.set(1, 100));
    }
}
