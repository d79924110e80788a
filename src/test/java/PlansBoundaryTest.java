/** What the document says of the ends of plans: PLANT, SEND, SAVE, DEAL, and promises 18 to 21. */
public final class PlansBoundaryTest extends Boundaries {
    private static final String TEN_BUSHES = "ca1;ca1;ca1;ca1;ca1;ca1;ca1;ca1;ca1;ca9";
    private static final String TWELVE_LOOKS = "x0;x0;x0;x0;x0;x0;x0;x0;x0;x0;x0;x0";

    public static void main(String[] args) {
        run(PlansBoundaryTest.class);
    }

    private static void planIs(String told, GorseGold x, int kind, int month, int left) {
        is(told + ": the kind", x.plant(0), kind);
        is(told + ": the month", x.plant(1), month);
        is(told + ": how many", x.plant(2), left);
    }

    /** Every bush more is typed behind the others, and the BARE MONTHS are counted. */
    private static void plantIsTheFirstOfTheBest(String bushes, String events) {
        int[] best = {0, 0, 99};
        for (int kind = 0; kind < 3; kind++) {
            for (int month = 0; month < 12; month++) {
                String more = "ced".charAt(kind) + "" + (char) ('a' + month) + "1";
                int left = Due.gold(bushes.isEmpty() ? more : bushes + ";" + more, "", events).count(5);
                if (left < best[2]) {
                    best = new int[] {kind, month, left};
                }
            }
        }
        planIs("'" + bushes + "' with '" + events + "'", Due.gold(bushes, "", events), best[0], best[1], best[2]);
    }

    // ---- PLANT

    @Sentence(under = "Terms", says = "behind all others (whatever room; of no EVENT but FROSTS)")
    static void plantHasWhateverRoom() {
        planIs("behind ten", Due.gold(TEN_BUSHES, "", ""), 0, 6, 0);
        planIs("behind ten, by a frost", Due.gold(TEN_BUSHES, "", "r:7:0"), 0, 6, 1);
        is("there are ten as before", Due.gold(TEN_BUSHES, "", "").count(0), 10);
        GorseGold x = Due.gold("ca1", "", "");
        x.plant(0);
        is("it is not planted", x.count(0), 1);
    }

    @Sentence(under = "Terms", says = "behind all others (whatever room; of no EVENT but FROSTS)")
    static void plantIsOfNoEventButFrosts() {
        planIs("a fire of the BUSH that it would be", Due.gold("ca1", "", "f:0:1 f:9:1"), 0, 6, 0);
        planIs("a goat of the BUSH that it would be", Due.gold("ca1", "", "g:6:1 g:8:1"), 0, 6, 0);
        planIs("a fire of BUSH 0, where there is none", Due.gold("", "", "f:0:0"), 0, 0, 12);
        planIs("goats of all BUSHES that are not there", Due.gold("ca1", "",
            "g:6:1 g:6:2 g:6:3 g:6:4 g:6:5 g:6:6 g:6:7 g:6:9"), 0, 6, 0);
        planIs("a frost in its middle", Due.gold("ca1", "", "r:8:0"), 0, 6, 1);
        planIs("a frost in a MONTH that is not BARE", Due.gold("ca1;dg1", "", "r:6:9"), 0, 6, 0);
    }

    @Sentence(under = "Terms",
        says = "by which fewest MONTHS are BARE, of like ones the least kind, then the least month")
    static void plantIsTheLeastKindThenTheLeastMonth() {
        planIs("nothing is BARE: all are alike", Due.gold("ca1;cg1", "", ""), 0, 0, 0);
        planIs("no BUSHES: all common ones are alike", new GorseGold(), 0, 0, 12);
        planIs("one MONTH, by a goat and a frost: dwarf ones only", Due.gold("ca1;cg1", "", "r:1:0"), 2, 0, 0);
        planIs("the last month begins a common one", Due.gold("cf1", "", ""), 0, 11, 0);
        planIs("no more than 3 of 12 BARE months in a year are left", Due.gold("da1", "", ""), 0, 3, 6);
        plantIsTheFirstOfTheBest("", "");
        plantIsTheFirstOfTheBest("", "r:0:0 r:3:0 r:6:0 r:9:0 r:12:0 r:15:0 r:18:0 r:21:0");
        plantIsTheFirstOfTheBest("ca1", "r:23:0 g:17:0");
        plantIsTheFirstOfTheBest("dl1;ee1", "r:11:0 f:4:1");
        plantIsTheFirstOfTheBest("ca1;cg1", "r:0:0 r:12:0");
        plantIsTheFirstOfTheBest("ca1;cg1", "r:11:0 r:13:0");
        plantIsTheFirstOfTheBest("ca1;cg1", "f:23:1 g:0:0");
        plantIsTheFirstOfTheBest("ca1;eb1;dc1;cd1;ee1;df1;cg1;eh1;di1", "f:0:0 f:0:1 f:0:2 f:0:3 f:0:4 f:0:5 r:9:0");
    }

    @Sentence(under = "Promise 18: plant", says = "PLANT: the kind (what = 0), the month (1), how many (2).")
    static void plantTellsTheFirstAndTheLastKindAndMonth() {
        planIs("a common one", new GorseGold(), 0, 0, 12);
        planIs("a dwarf one", Due.gold("ca1;cg1", "", "r:2:0"), 2, 0, 0);
        planIs("month 11", Due.gold("cf1", "", ""), 0, 11, 0);
    }

    @Sentence(under = "Promise 18: plant", says = "BAD.")
    static void plantIsBad() {
        for (int what : outside(0, 2)) {
            bad("plant(" + what + ")", x -> x.plant(what));
        }
    }

    // ---- SEND

    private static void sendIs(String told, GorseGold x, int month, int bush, int run) {
        is(told + ": the MONTH", x.send(0), month);
        is(told + ": the BUSH", x.send(1), bush);
        is(told + ": the RUN", x.send(2), run);
    }

    private static GorseGold doubted(String bushes, String looks, String events, int faith, int doubt) {
        GorseGold x = Due.gold(bushes, looks, events);
        x.set(0, faith);
        x.set(1, doubt);
        return x;
    }

    /** Every look more is typed behind the others, and the RUN is asked for. */
    private static void sendIsTheFirstOfTheLatest(String bushes, String looks, String events, int faith, int doubt) {
        int[] best = {0, 0, -2};
        int latest = -1;
        int there = Due.gold(bushes, "").count(0);
        for (int month = 0; month < 24; month++) {
            for (int bush = 0; bush < there; bush++) {
                String more = (char) ('a' + month) + "" + bush;
                String all = looks.isEmpty() ? more : looks + ";" + more;
                int run = doubted(bushes, all, events, faith, doubt).run();
                int late = run == GorseGold.NONE ? 24 : run;
                if (late > latest) {
                    latest = late;
                    best = new int[] {month, bush, run};
                }
            }
        }
        String told = "'" + bushes + "' '" + looks + "' '" + events + "' " + faith + " " + doubt;
        sendIs(told, doubted(bushes, looks, events, faith, doubt), best[0], best[1], best[2]);
    }

    @Sentence(under = "Terms", says = "SEND: a LOOK more, behind all others (whatever room)")
    static void sendHasWhateverRoomBehindAllOthers() {
        sendIs("behind twelve", doubted(TEN_BUSHES, TWELVE_LOOKS, "", 50, 10), 0, 9, 23);
        sendIs("behind twelve at all ends", doubted("ca9", "a0;a0;a0;a0;a0;a0;a0;a0;a0;a0;a0;a0", "", 50, 50), 0, 0,
            GorseGold.NONE);
        sendIs("5 less of 4, then 9 more", doubted("ca9;cg9", "a1", "", 4, 9), 0, 0, 1);
        sendIs("100, then 5 less", doubted("cg9;ca9", "a1;a1", "", 90, 50), 0, 1, GorseGold.NONE);
        GorseGold x = Due.gold("ca1", "a0");
        x.send(0);
        is("it is not sent", x.count(1), 1);
    }

    @Sentence(under = "Terms", says = "by which the RUN is latest (none is latest)")
    static void sendTakesNoRunForTheLatest() {
        GorseGold x = doubted("ca1;ca9", "", "", 50, 2);
        is("no run even without it", x.run(), GorseGold.NONE);
        sendIs("none by the first", x, 0, 0, GorseGold.NONE);
        sendIs("23 by BUSH 0, none by BUSH 1", doubted("ca1;ca3", "", "", 50, 7), 0, 1, GorseGold.NONE);
        sendIs("23 by both", doubted("ca1;ca2", "", "", 50, 7), 0, 0, 23);
        sendIs("DOUBT 0 is never above", doubted("cg1", "", "f:0:0", 0, 0), 0, 0, GorseGold.NONE);
        sendIs("a run in MONTH 0 whatever is sent", doubted("cg1", "", "", 0, 50), 0, 0, 0);
    }

    @Sentence(under = "Terms", says = "of like ones the least MONTH, then the least BUSH (that there is)")
    static void sendIsTheLeastMonthThenTheLeastBush() {
        sendIs("like BUSHES", doubted("cg1;ca3;ca3", "", "", 50, 20), 0, 1, 17);
        sendIs("like MONTHS", doubted("dg1;cg1", "", "", 49, 10), 6, 0, 21);
        sendIsTheFirstOfTheLatest("ca9;cg9", "", "", 50, 20);
        sendIsTheFirstOfTheLatest("ca9;cg9", "a1;b1;c1", "", 50, 20);
        sendIsTheFirstOfTheLatest("ca9;cg9", "a9;x0", "f:0:0 f:9:0 p:12:1", 60, 40);
        sendIsTheFirstOfTheLatest("dl1;ek2;cj3", "w0;x1", "g:3:0 r:12:0", 30, 1);
        sendIsTheFirstOfTheLatest("cg1", "", "f:0:0", 50, 40);
        sendIsTheFirstOfTheLatest("cg1;cg1", "", "f:5:0 f:5:1 f:5:0", 50, 10);
        sendIsTheFirstOfTheLatest("ca1;ca1;ca1;ca1;ca1;ca1;ca1;ca1;ca1;ca2", "a0;b0", "", 50, 11);
    }

    @Sentence(under = "Terms", says = "in which MONTH there is a RUN; NONE.")
    static void sendTellsTheRunWithTheLook() {
        GorseGold x = doubted("ca9", "", "", 50, 20);
        is("run() without it", x.run(), 15);
        sendIs("with it", x, 0, 0, 20);
        sendIs("in the last MONTH", doubted("ca1", "", "", 50, 6), 0, 0, 23);
        sendIs("in none", doubted("ca1", "", "", 50, 5), 0, 0, GorseGold.NONE);
        x = doubted("ca1", "", "f:0:0 f:9:0 f:18:0", 50, 10);
        is("run() by fires", x.run(), 10);
        sendIs("in the MONTH of the look, as early ones cost more", x, 10, 0, 10);
    }

    @Sentence(under = "Promise 19: send", says = "NONE: there are no BUSHES; none. BAD.")
    static void sendIsNoneWithoutBushes() {
        GorseGold x = Due.gold("", "a0");
        is("a run there is", x.run(), 15);
        sendIs("no BUSHES", x, GorseGold.NONE, GorseGold.NONE, GorseGold.NONE);
        sendIs("BUSHES with a fault", Due.gold("ca9;", ""), GorseGold.NONE, GorseGold.NONE, GorseGold.NONE);
        sendIs("one BUSH and no run", doubted("ca9", "", "", 50, 0), 0, 0, GorseGold.NONE);
    }

    @Sentence(under = "Promise 19: send", says = "NONE: there are no BUSHES; none. BAD.")
    static void sendIsBad() {
        for (int what : outside(0, 2)) {
            bad("send(" + what + ")", x -> x.send(what));
            refused("send(" + what + ") without BUSHES", GorseGold::new, x -> x.send(what), GorseGold.BAD, 0);
        }
    }

    // ---- SAVE

    private static void saveIs(String told, GorseGold x, int many, int first, int second) {
        is(told + ": how many", x.save(GorseGold.NONE), many);
        is(told + ": the first", x.save(0), first);
        is(told + ": the second", x.save(1), second);
    }

    /** Every event, and every two of them, are left out, and it is asked whether a MONTH is BARE. */
    private static void saveIsTheLeastRowOfTheFewest(String bushes, String events) {
        int many = events.split(" ").length;
        int[] best = Due.gold(bushes, "", events).bare() == 0 ? new int[] {0, -1, -1} : null;
        for (int i = 0; best == null && i < many; i++) {
            best = Due.gold(bushes, "", Due.without(events, i)).bare() == 0 ? new int[] {1, i, -1} : null;
        }
        for (int i = 0; best == null && i < many; i++) {
            for (int j = i + 1; best == null && j < many; j++) {
                best = Due.gold(bushes, "", Due.without(events, i, j)).bare() == 0 ? new int[] {2, i, j} : null;
            }
        }
        best = best == null ? new int[] {-1, -1, -1} : best;
        saveIs("'" + bushes + "' with '" + events + "'", Due.gold(bushes, "", events), best[0], best[1], best[2]);
    }

    @Sentence(under = "Terms",
        says = "SAVE: the fewest EVENTS (0 to 2) that had better not be, so that no MONTH is BARE")
    static void saveIsNoneToTwoEvents() {
        saveIs("none is needed", Due.gold("ca1;cg1", "", "p:0:0 f:0:9"), 0, -1, -1);
        saveIs("one is needed", Due.gold("ca1;cg1", "", "p:0:0 g:1:0"), 1, 1, -1);
        saveIs("two are needed", Due.gold("ca1;cg1", "", "p:0:0 g:1:0 g:9:1"), 2, 1, 2);
        saveIs("three are needed", Due.gold("ca1;cg1", "", "p:0:0 g:1:0 g:9:1 g:13:0"), -1, -1, -1);
        saveIs("all eight are needed", Due.gold("ca1;cg1", "",
            "r:0:0 r:2:0 r:4:0 r:6:0 r:8:0 r:10:0 r:12:0 r:14:0"), -1, -1, -1);
        saveIs("the seventh and the eighth", Due.gold("ca1;cg1", "", "p:0:0 p:0:0 p:0:0 p:0:0 p:0:0 p:0:0 g:1:0 g:9:1"),
            2, 6, 7);
        GorseGold x = Due.gold("ca1;cg1", "", "g:1:0");
        x.save(0);
        is("it is not undone", x.count(4), 1);
    }

    @Sentence(under = "Terms", says = "of like ones the least row (each more than the one ahead)")
    static void saveIsTheLeastRow() {
        saveIs("either of two", Due.gold("ca1;ca1;cg1", "", "p:0:0 g:1:0 g:1:1"), 1, 1, -1);
        saveIs("either of two, and either of two", Due.gold("ca1;ca1;cg1;cg1", "", "g:1:0 g:1:1 g:9:2 g:9:3"), 2, 0, 2);
        saveIs("the second told first", Due.gold("ca1;cg1", "", "g:9:1 g:1:0"), 2, 0, 1);
        saveIsTheLeastRowOfTheFewest("ca1;cg1", "f:0:0 f:3:1 p:2:1");
        saveIsTheLeastRowOfTheFewest("ca1;cg1;ea1", "f:0:0 r:3:1 p:2:1 g:2:2");
        saveIsTheLeastRowOfTheFewest("ca1;cg1;da1;dd1", "r:4:0 f:2:0 f:3:2 g:4:3 f:12:3");
        saveIsTheLeastRowOfTheFewest("ca1;cg1;cd1;cj1", "f:0:0 f:0:1 f:0:2 f:0:3 r:1:1 g:20:1 g:20:2 p:1:1");
        saveIsTheLeastRowOfTheFewest("ca1;cg1;cd1;cj1", "f:0:0 f:0:1 f:0:2 g:0:3 p:1:1 g:20:1 g:20:2 p:1:1");
    }

    @Sentence(under = "Terms", says = "how many; the i-th; NONE.")
    static void saveIsNoneWhereThereAreNotSoMany() {
        saveIs("of none", Due.gold("ca1;cg1", "", ""), 0, GorseGold.NONE, GorseGold.NONE);
        saveIs("of one", Due.gold("ca1;cg1", "", "g:1:0"), 1, 0, GorseGold.NONE);
        saveIs("of two", Due.gold("ca1;cg1", "", "g:1:0 g:9:1"), 2, 0, 1);
    }

    @Sentence(under = "Promise 20: save", says = "SAVE: how many (i = NONE), the i-th (0, 1; NONE); NONE.")
    static void saveIsNoneWhereNoTwoAreEnough() {
        saveIs("no BUSHES", new GorseGold(), GorseGold.NONE, GorseGold.NONE, GorseGold.NONE);
        saveIs("BARE without any EVENT", Due.gold("ca1", "", ""), GorseGold.NONE, GorseGold.NONE, GorseGold.NONE);
        saveIs("BARE without any of them", Due.gold("ca1", "", "g:0:0"), GorseGold.NONE, GorseGold.NONE,
            GorseGold.NONE);
    }

    @Sentence(under = "Promise 20: save", says = "BAD.")
    static void saveIsBad() {
        for (int i : outside(-1, 1)) {
            bad("save(" + i + ")", x -> x.save(i));
            refused("save(" + i + ") of a new object", GorseGold::new, x -> x.save(i), GorseGold.BAD, 0);
        }
    }

    // ---- DEAL

    private static void dealIs(String told, GorseGold x, int buy, int sell, int gain) {
        is(told + ": buy", x.deal(0), buy);
        is(told + ": sell", x.deal(1), sell);
        is(told + ": by how much", x.deal(2), gain);
    }

    private static void dealIsTheFirstOfTheMost(String bushes, String looks, String events) {
        GorseGold x = Due.gold(bushes, looks, events);
        int[] best = {0, 0, -1};
        for (int buy = 0; buy < 24; buy++) {
            for (int sell = buy; sell < 24; sell++) {
                int gain = x.hill(sell, 1) - x.hill(buy, 1);
                if (gain > best[2]) {
                    best = new int[] {buy, sell, gain};
                }
            }
            // an object is good for 512 calls only
            x = Due.gold(bushes, looks, events);
        }
        dealIs("'" + bushes + "' '" + looks + "' '" + events + "'", x, best[0], best[1], best[2]);
    }

    @Sentence(under = "Terms",
        says = "DEAL: in which MONTH one had better buy, behind which at least sell, so that BELIEF there is most above that here")
    static void dealSellsNotAheadOfWhereItBuys() {
        dealIs("it only falls", new GorseGold(), 0, 0, 0);
        dealIs("a rise, then a deeper fall", Due.gold("ca9;cg9", "b0;m1;n1;o1"), 0, 1, 9);
        dealIs("the last MONTH", Due.gold("cg9", "x0"), 22, 23, 9);
        dealIs("FAITH is not for sale", Due.gold("ca9", "a0"), 0, 0, 0);
        GorseGold x = Due.gold("ca9;ca9", "b0;b1;c0;c1;d0;d1;e0;e1;f0;f1;f0;f1");
        x.set(0, 0);
        dealIs("from 0 to 100", x, 0, 5, 100);
        dealIsTheFirstOfTheMost("ca9;cg9", "b0;d0;e1;h1;j1", "f:7:0");
        dealIsTheFirstOfTheMost("ca2;cg2", "b0;d0;f0;h1;j1;l1", "");
        dealIsTheFirstOfTheMost("ca2;cg2", "d0;d0;d0;k1;k1;k1", "f:7:0 f:7:1");
    }

    @Sentence(under = "Terms", says = "of like ones the least MONTH to buy, then to sell")
    static void dealIsTheLeastMonthToBuyThenToSell() {
        dealIs("like sales", Due.gold("ca2", "b0;d0"), 0, 1, 2);
        dealIs("like purchases", Due.gold("ca1", "b0;e0"), 0, 1, 1);
        GorseGold x = Due.gold("ca1", "");
        x.set(0, 0);
        dealIs("0 all along", x, 0, 0, 0);
        x = Due.gold("cd5", "d0");
        x.set(0, 6);
        dealIs("0 behind MONTHS 2 only", x, 2, 3, 5);
        x.set(0, 4);
        dealIs("0 behind MONTHS 1 and 2", x, 1, 3, 5);
        x.set(0, 0);
        dealIs("0 behind MONTHS 0 to 2", x, 0, 3, 5);
    }

    @Sentence(under = "Terms", says = "the one; the other (perhaps the same); by how much.")
    static void dealMayBeInOneMonth() {
        dealIs("no BUSHES", new GorseGold(), 0, 0, 0);
        dealIs("only 5 less", Due.gold("cg9", "a0;b0;c0;d0"), 0, 0, 0);
        GorseGold x = Due.gold("ca9", "a0;b0");
        x.set(0, 100);
        dealIs("100 at most", x, 0, 0, 0);
    }

    @Sentence(under = "Promise 21: deal", says = "DEAL: buy (what = 0), sell (1), by how much (2).")
    static void dealTellsTheFirstAndTheLastMonth() {
        GorseGold x = Due.gold("ca9;cg9", "b0;c0;d0;e0;f0;g1;h1;i1;u1;v1;w1;x1");
        x.set(0, 10);
        dealIs("from the first on", x, 0, 23, 86);
    }

    @Sentence(under = "Promise 21: deal", says = "BAD.")
    static void dealIsBad() {
        for (int what : outside(0, 2)) {
            bad("deal(" + what + ")", x -> x.deal(what));
        }
    }
}
