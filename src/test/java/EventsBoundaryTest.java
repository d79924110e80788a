/** What the document says of the ends of EVENTS, and of promises 9 to 11. */
public final class EventsBoundaryTest extends Boundaries {
    public static void main(String[] args) {
        run(EventsBoundaryTest.class);
    }

    /** A hill with eight events, of bushes that are there and of some that are not. */
    private static GorseGold eight() {
        GorseGold x = Due.gold("ca3;eg2;dl9", "a0");
        Due.events(x, "f:0:0 g:5:1 r:23:9 p:12:2 f:23:9 g:0:0 p:1:1 r:11:0");
        return x;
    }

    private static GorseGold withSheet(int form, int... items) {
        GorseGold x = Due.gold("ca3;eg2;dl9", "");
        lay(x, form, items);
        return x;
    }

    private static void lay(GorseGold x, int form, int... items) {
        x.sheet(0, form, items.length);
        for (int i = 0; i < items.length; i++) {
            x.lay(0, form, i, items[i]);
        }
    }

    // ---- Terms

    @Sentence(under = "Terms", says = "MONTHS are 0 to 23.")
    static void monthsAre0To23() {
        GorseGold x = rich();
        for (int month : new int[] {0, 23}) {
            holds("at " + month, x.at(month, 0, 0) >= 0);
            holds("hill " + month, x.hill(month, 0) >= 0);
            holds("luck " + month, x.luck(5, month, 0) >= 0);
            holds("event " + month, x.event(0, month, 0) > 0);
            holds("seen " + month, x.seen(month, 0, 0) > 0);
        }
        for (int month : outside(0, 23)) {
            is("at " + month, x.at(month, 0, 0), GorseGold.BAD);
            is("hill " + month, x.hill(month, 0), GorseGold.BAD);
            is("luck " + month, x.luck(5, month, 0), Long.MIN_VALUE + 2);
            is("event " + month, x.event(0, month, 0), GorseGold.BAD);
            is("seen " + month, x.seen(month, 0, 0), GorseGold.BAD);
        }
        is("as bits", new GorseGold().bare(), 0xFFFFFF);
    }

    @Sentence(under = "Terms", says = "EVENTS, 8 at most (0 on)")
    static void eventsAreEightAtMost() {
        GorseGold x = new GorseGold();
        for (int n = 1; n <= 8; n++) {
            is("event " + n, x.event(0, 0, 0), n);
        }
        is("a ninth", x.event(0, 0, 0), GorseGold.FULL);
        is("count(4)", x.count(4), 8);
    }

    @Sentence(under = "Terms", says = "EVENTS, 8 at most (0 on)")
    static void eventsAreNumberedFrom0On() {
        GorseGold x = Due.gold("ca1;cg1", "");
        Due.events(x, "g:0:0 p:0:0 p:0:0 p:0:0 p:0:0 p:0:0 p:0:0 g:9:1");
        x.seen(0, 0, 1);
        is("never() of the first", x.never(), 1);
        is("save(0)", x.save(0), 0);
        is("save(1)", x.save(1), 7);
        x.forget();
        x.seen(9, 1, 1);
        is("never() of the eighth", x.never(), 1 << 7);
    }

    @Sentence(under = "Terms", says = "a kind, a MONTH, a BUSH (0 to 9)")
    static void eventsAreOfBushes0To9WhetherThereOrNot() {
        for (int bush = 0; bush <= 9; bush++) {
            for (int kind = 0; kind <= 3; kind++) {
                is("event(" + kind + ", 0, " + bush + ")", new GorseGold().event(kind, 0, bush), 1);
                is("event(" + kind + ", 23, " + bush + ")", new GorseGold().event(kind, 23, bush), 1);
            }
        }
        is("bush -1", new GorseGold().event(0, 0, -1), GorseGold.BAD);
        is("bush 10", new GorseGold().event(0, 0, 10), GorseGold.BAD);
    }

    @Sentence(under = "Terms", says = "a kind, a MONTH, a BUSH (0 to 9)")
    static void anEventIsOfItsBushOnceThatIsThere() {
        GorseGold x = new GorseGold();
        x.event(1, 0, 9);
        Due.type(x, 0, "ca1;ca1;ca1;ca1;ca1;ca1;ca1;ca1;ca1");
        is("of nine none is eaten", x.hill(0, 0), 9);
        Due.type(x, 0, ";ca1");
        is("of ten one is eaten", x.hill(0, 0), 9);
        is("the tenth", x.at(0, 9, 0), 3);
    }

    @Sentence(under = "Terms", says = "0 a FIRE, 1 a GOAT, 2 a FROST (of all BUSHES, whichever is told), 3 PAINT")
    static void aFrostIsOfAllBushesWhicheverIsTold() {
        for (int told = 0; told <= 9; told++) {
            GorseGold x = Due.gold("ca1;ea1", "");
            x.event(2, 0, told);
            is("bush 0 by a frost of " + told, x.at(0, 0, 0), 4);
            is("bush 1 by a frost of " + told, x.at(0, 1, 0), 4);
        }
    }

    @Sentence(under = "Terms", says = "0 a FIRE, 1 a GOAT, 2 a FROST (of all BUSHES, whichever is told), 3 PAINT")
    static void firesGoatsPaintAreOfTheOneToldOnly() {
        int[] state = {2, 3, 4, 1};
        for (int kind : new int[] {0, 1, 3}) {
            GorseGold x = Due.gold("ca1;ca1;ca1", "");
            x.event(kind, 0, 1);
            is("ahead of it, kind " + kind, x.at(0, 0, 0), 1);
            is("it, kind " + kind, x.at(0, 1, 0), state[kind]);
            is("behind it, kind " + kind, x.at(0, 2, 0), 1);
            is("ahead of it, painted, kind " + kind, x.at(0, 0, 2), 0);
            is("it, painted, kind " + kind, x.at(0, 1, 2), kind == 3 ? 1 : 0);
        }
    }

    // ---- Promise 9

    @Sentence(under = "Promise 9: event", says = "An EVENT more: how many.")
    static void eventAnswersHowMany() {
        GorseGold x = new GorseGold();
        for (int n = 1; n <= 8; n++) {
            is("event", x.event(n % 4, 3 * n - 1, n), n);
            is("count(4)", x.count(4), n);
        }
    }

    @Sentence(under = "Promise 9: event", says = "BAD; FULL.")
    static void eventIsBad() {
        for (int kind : outside(0, 3)) {
            bad("event(" + kind + ", 0, 0)", x -> x.event(kind, 0, 0));
        }
        for (int month : outside(0, 23)) {
            bad("event(0, " + month + ", 0)", x -> x.event(0, month, 0));
        }
        for (int bush : outside(0, 9)) {
            bad("event(0, 0, " + bush + ")", x -> x.event(0, 0, bush));
            bad("event(2, 0, " + bush + "), a frost", x -> x.event(2, 0, bush));
        }
    }

    @Sentence(under = "Promise 9: event", says = "BAD; FULL.")
    static void eventIsFull() {
        for (int kind = 0; kind < 4; kind++) {
            int told = kind;
            refused("event(" + kind + ", 3, 1)", EventsBoundaryTest::eight, x -> x.event(told, 3, 1),
                GorseGold.FULL, 0);
        }
        GorseGold x = eight();
        x.back();
        is("with room again", x.event(0, 3, 1), 8);
    }

    @Sentence(under = "Promise 9: event", says = "BAD; FULL.")
    static void eventIsBadAheadOfFull() {
        refused("event(4, 0, 0)", EventsBoundaryTest::eight, x -> x.event(4, 0, 0), GorseGold.BAD, 0);
        refused("event(0, 24, 0)", EventsBoundaryTest::eight, x -> x.event(0, 24, 0), GorseGold.BAD, 0);
        refused("event(0, 0, 10)", EventsBoundaryTest::eight, x -> x.event(0, 0, 10), GorseGold.BAD, 0);
    }

    // ---- Promise 10

    @Sentence(under = "Promise 10: back", says = "The last EVENT is undone: how many are left.")
    static void backGoesDownTo0FromTheLast() {
        GorseGold x = Due.gold("ca1;ca1;ca1;ca1;ca1;ca1;ca1;ca1", "");
        Due.events(x, "g:0:0 g:0:1 g:0:2 g:0:3 g:0:4 g:0:5 g:0:6 g:0:7");
        for (int left = 7; left >= 0; left--) {
            is("back()", x.back(), left);
            is("the one undone", x.at(0, left, 0), 1);
            is("YELLOW", x.hill(0, 0), 8 - left);
        }
    }

    @Sentence(under = "Promise 10: back", says = "NOT: there is none.")
    static void backOfNoneIsNot() {
        refused("back()", () -> Due.gold("ca3", "a0"), GorseGold::back, GorseGold.NOT, 0);
        GorseGold x = new GorseGold();
        x.event(0, 0, 0);
        x.back();
        is("back() behind the last", x.back(), GorseGold.NOT);
        is("back() again", x.back(), GorseGold.NOT);
        is("one more is the first", x.event(0, 0, 0), 1);
    }

    // ---- Promise 11

    @Sentence(under = "Promise 11: read", says = "its items, three for each, as many as are whole")
    static void readTakesWholeThreesOnly() {
        for (int n = 0; n <= 60; n++) {
            GorseGold x = withSheet(2, new int[n]);
            int whole = Math.min(8, n / 3);
            is("read(0) of " + n + " items", x.read(0), whole);
            is("count(4)", x.count(4), whole);
        }
    }

    @Sentence(under = "Promise 11: read", says = "its items, three for each, as many as are whole")
    static void readTakesKindThenMonthThenBush() {
        for (int form = 0; form < 3; form++) {
            GorseGold x = withSheet(form, 1, 2, 0, 3, 23, 2);
            is("read(0) of form " + form, x.read(0), 2);
            is("a goat in MONTH 2 of BUSH 0", monthsOf(x, 0, 3), Due.months(2, 3));
            is("paint in MONTH 23 of BUSH 2", markedMonths(x, 2, 2), 1 << 23);
        }
    }

    @Sentence(under = "Promise 11: read", says = "as long as each may be")
    static void readStopsAheadOfTheFirstThatMayNotBe() {
        for (int kind : outside(0, 3)) {
            stopsBehindTwo(kind, 0, 0);
        }
        for (int month : outside(0, 23)) {
            stopsBehindTwo(0, month, 0);
        }
        for (int bush : outside(0, 9)) {
            stopsBehindTwo(0, 0, bush);
        }
    }

    private static void stopsBehindTwo(int kind, int month, int bush) {
        String told = " with " + kind + ", " + month + ", " + bush;
        GorseGold x = withSheet(2, 3, 23, 9, 0, 0, 0, kind, month, bush, 1, 1, 1);
        is("read(0)" + told, x.read(0), 2);
        is("count(4)" + told, x.count(4), 2);
        is("the one behind it is not there" + told, x.at(1, 1, 0), 0);
        is("it ends with a fire" + told, x.back(), 1);
        is("which is undone" + told, x.at(0, 0, 0), 1);
        is("read(0) where it is the first" + told, withSheet(2, kind, month, bush, 1, 1, 1).read(0), 0);
    }

    @Sentence(under = "Promise 11: read", says = "as long as each may be")
    static void readTakesTheLeastAndTheGreatestThatMayBe() {
        is("read(0)", withSheet(0, 0, 0, 0, 3, 23, 9).read(0), 2);
        is("read(0) of a byte of 256, which is 0", withSheet(0, 256, 256, 256).read(0), 1);
        is("read(0) of a byte of 255, which is -1", withSheet(0, 0, 255, 0).read(0), 0);
        is("read(0) of a short of 65536, which is 0", withSheet(1, 65536, 65536, 65536).read(0), 1);
        is("read(0) of a short of 256", withSheet(1, 256, 0, 0).read(0), 0);
        is("read(0) of an int of 65536", withSheet(2, 65536, 0, 0).read(0), 0);
    }

    @Sentence(under = "Promise 11: read", says = "as long as each may be")
    static void readBringsEightInAllAtMost() {
        for (int told = 0; told <= 8; told++) {
            GorseGold x = withSheet(1, 0, 0, 0, 1, 1, 1, 2, 2, 2);
            for (int i = 0; i < told; i++) {
                x.event(3, 12, 2);
            }
            is("read(0) behind " + told, x.read(0), Math.min(3, 8 - told));
            is("count(4) behind " + told, x.count(4), Math.min(8, told + 3));
            is("paint is as told", x.at(12, 2, 2), told > 0 ? 1 : 0);
            is("no finding", x.count(8), 0);
        }
    }

    @Sentence(under = "Promise 11: read", says = "how many. BAD; NULL.")
    static void readOfNothingAnswers0AndChangesNothing() {
        refused("read(0) where no whole one is", () -> withSheet(0, 1, 1), x -> x.read(0), 0, 0);
        refused("read(0) where there is no room", () -> {
            GorseGold x = eight();
            lay(x, 0, 1, 1, 1);
            return x;
        }, x -> x.read(0), 0, 0);
    }

    @Sentence(under = "Promise 11: read", says = "how many. BAD; NULL.")
    static void readLeavesTheSheetAsItIs() {
        GorseGold x = withSheet(1, 1, 2, 0);
        x.read(0);
        is("item 0", x.get(0, 1, 0), 1);
        is("item 1", x.get(0, 1, 1), 2);
        is("lose(0)", x.lose(0), 3);
        is("the event stays", x.at(2, 0, 0), 3);
    }

    @Sentence(under = "Promise 11: read", says = "how many. BAD; NULL.")
    static void readIsBad() {
        for (int s : outside(0, 3)) {
            bad("read(" + s + ")", x -> x.read(s));
        }
    }

    @Sentence(under = "Promise 11: read", says = "how many. BAD; NULL.")
    static void readOfALostSheetIsNull() {
        refused("read(3)", Boundaries::rich, x -> x.read(3), -11, 1);
        for (int s = 0; s < 4; s++) {
            is("read(" + s + ") of a new object", new GorseGold().read(s), -11);
        }
        GorseGold x = withSheet(0, 0, 0, 0);
        x.lose(0);
        is("read(0) of one that was lost", x.read(0), -11);
    }
}
