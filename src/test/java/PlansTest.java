/** Promises 18 to 21: plant, send, save, deal. */
public final class PlansTest {
    private static final Due DUE = new Due("PlansTest");

    public static void main(String[] args) {
        plant();
        plantAndEvents();
        send();
        sendIsBehindAllOthers();
        save();
        deal();
        refusals();
        DUE.end();
    }

    private static void plantIs(String told, GorseGold x, int kind, int month, int left) {
        DUE.is(told + ": kind", x.plant(0), kind);
        DUE.is(told + ": month", x.plant(1), month);
        DUE.is(told + ": left", x.plant(2), left);
    }

    private static void plant() {
        plantIs("no bushes", new GorseGold(), 0, 0, 12);
        plantIs("half a year", Due.gold("ca1", ""), 0, 6, 0);
        plantIs("a winter over the end of the year", Due.gold("ce1", ""), 0, 10, 0);
        plantIs("whatever room", Due.gold("ca1;ca1;ca1;ca1;ca1;ca1;ca1;ca1;ca1;ca1", ""), 0, 6, 0);
    }

    private static void plantAndEvents() {
        GorseGold x = Due.gold("ca1", "");
        Due.events(x, "f:6:1 g:7:1");
        plantIs("of no fire and no goat", x, 0, 6, 0);
        x = Due.gold("ca1;cg1", "");
        Due.events(x, "r:1:0");
        plantIs("a dwarf one stands a frost", x, 2, 0, 0);
        x = Due.gold("ca1;cg1", "");
        Due.events(x, "r:0:0");
        plantIs("the least month that wraps", x, 2, 0, 0);
        x = Due.gold("dd1;ce1;ck1", "");
        Due.events(x, "g:4:1 g:5:1");
        plantIs("eaten months are filled", x, 0, 1, 0);
    }

    private static void sendIs(String told, GorseGold x, int month, int bush, int run) {
        DUE.is(told + ": month", x.send(0), month);
        DUE.is(told + ": bush", x.send(1), bush);
        DUE.is(told + ": run", x.send(2), run);
    }

    private static void send() {
        sendIs("no bushes", new GorseGold(), -1, -1, -1);
        GorseGold x = Due.gold("ca9;cg9", "");
        sendIs("9 more and not 2 less", x, 0, 0, 20);
        x.set(1, 2);
        sendIs("no run by any look but a costly one", x, 0, 0, -1);
        x.set(0, 0);
        x.set(1, 1);
        sendIs("only the first month can help", x, 0, 0, 5);
        x = Due.gold("ca1;ca2;ca9;ca9", "");
        x.set(1, 10);
        sendIs("no run by the third bush, nor by the fourth", x, 0, 2, -1);
        x = Due.gold("dg1;cg1", "");
        x.set(0, 49);
        x.set(1, 10);
        DUE.is("told run", x.run(), 19);
        sendIs("the first bloom, of like ones the least", x, 6, 0, 21);
        x = Due.gold("ca1", "");
        Due.events(x, "f:0:0 f:9:0 f:18:0");
        x.set(1, 10);
        DUE.is("told run by fires", x.run(), 10);
        sendIs("a look ahead of it brings the run nearer", x, 10, 0, 10);
    }

    private static void sendIsBehindAllOthers() {
        GorseGold x = Due.gold("ca9;cg9", "a1");
        x.set(0, 2);
        x.set(1, 8);
        sendIs("9 more behind 5 less of 2", x, 0, 0, 1);
        x = Due.gold("ca1;ca1;ca1;ca1;ca1;ca1;ca1;ca1;ca1;ca9", "x0;x0;x0;x0;x0;x0;x0;x0;x0;x0;x0;x0");
        x.set(1, 10);
        sendIs("whatever room", x, 0, 9, 23);
        x = Due.gold("ca9", "a0;");
        sendIs("looks with a fault are none", x, 0, 0, 20);
    }

    private static void saveIs(String told, GorseGold x, int size, int first, int second) {
        DUE.is(told + ": how many", x.save(-1), size);
        DUE.is(told + ": the first", x.save(0), first);
        DUE.is(told + ": the second", x.save(1), second);
    }

    private static void save() {
        saveIs("no bushes", new GorseGold(), -1, -1, -1);
        GorseGold x = Due.gold("ca1;cg1", "");
        saveIs("no events", x, 0, -1, -1);
        Due.events(x, "p:0:0 f:0:9");
        saveIs("harmless ones", x, 0, -1, -1);
        Due.events(x, "g:1:0");
        saveIs("one", x, 1, 2, -1);
        Due.events(x, "r:1:0");
        saveIs("two that make the same month bare", x, 2, 2, 3);
        Due.events(x, "g:20:1");
        saveIs("three are too many", x, -1, -1, -1);
        x = Due.gold("ca1;ca1;cg1", "");
        Due.events(x, "g:1:0 g:1:1 p:3:3 r:8:0");
        saveIs("the least row", x, 2, 0, 3);
        x.back();
        saveIs("either is enough: the least", x, 1, 0, -1);
    }

    private static void dealIs(String told, GorseGold x, int buy, int sell, int gain) {
        DUE.is(told + ": buy", x.deal(0), buy);
        DUE.is(told + ": sell", x.deal(1), sell);
        DUE.is(told + ": gain", x.deal(2), gain);
    }

    private static void deal() {
        dealIs("it only falls", new GorseGold(), 0, 0, 0);
        dealIs("a look in month 3", Due.gold("ca9", "d0"), 2, 3, 9);
        dealIs("over a fall", Due.gold("ca9", "d0;f0"), 2, 5, 16);
        dealIs("the first of like ones", Due.gold("ca3", "b0;d0;f0;f0;m0"), 0, 5, 8);
        dealIs("like gains", Due.gold("ca1", "b0;e0"), 0, 1, 1);
        GorseGold x = Due.gold("ca9;ca9", "a0;a0;a1;a1");
        x.set(0, 90);
        dealIs("bounded behind the first month", x, 0, 0, 0);
        dealIs("the rise of month 0 is not for sale", Due.gold("ca9", "a0"), 0, 0, 0);
        dealIs("like sales: the least", Due.gold("ca2", "b0;d0"), 0, 1, 2);
    }

    private static void refusals() {
        GorseGold x = new GorseGold();
        DUE.is("plant(-1)", x.plant(-1), GorseGold.BAD);
        DUE.is("plant(3)", x.plant(3), GorseGold.BAD);
        DUE.is("send(-1)", x.send(-1), GorseGold.BAD);
        DUE.is("send(3)", x.send(3), GorseGold.BAD);
        DUE.is("save(-2)", x.save(-2), GorseGold.BAD);
        DUE.is("save(2)", x.save(2), GorseGold.BAD);
        DUE.is("deal(-1)", x.deal(-1), GorseGold.BAD);
        DUE.is("deal(3)", x.deal(3), GorseGold.BAD);
    }
}
