/** Promises 9 to 11: event, back, read. */
public final class EventsTest {
    private static final Due DUE = new Due("EventsTest");

    public static void main(String[] args) {
        event();
        back();
        read();
        readStops();
        readRefuses();
        DUE.end();
    }

    private static void event() {
        GorseGold x = new GorseGold();
        DUE.is("event(-1, 0, 0)", x.event(-1, 0, 0), GorseGold.BAD);
        DUE.is("event(4, 0, 0)", x.event(4, 0, 0), GorseGold.BAD);
        DUE.is("event(0, -1, 0)", x.event(0, -1, 0), GorseGold.BAD);
        DUE.is("event(0, 24, 0)", x.event(0, 24, 0), GorseGold.BAD);
        DUE.is("event(0, 0, -1)", x.event(0, 0, -1), GorseGold.BAD);
        DUE.is("event(2, 0, 10)", x.event(2, 0, 10), GorseGold.BAD);
        for (int i = 1; i <= 8; i++) {
            DUE.is("event " + i, x.event(i % 4, i + 15, i + 1), i);
        }
        DUE.is("a ninth event", x.event(0, 0, 0), GorseGold.FULL);
        DUE.is("BAD ahead of FULL", x.event(0, 24, 0), GorseGold.BAD);
        DUE.is("count(4)", x.count(4), 8);
    }

    private static void back() {
        GorseGold x = Due.gold("ca1", "");
        x.event(1, 0, 0);
        x.event(0, 0, 0);
        DUE.is("at(0, 0, 0) burnt", x.at(0, 0, 0), 2);
        DUE.is("back()", x.back(), 1);
        DUE.is("at(0, 0, 0) eaten", x.at(0, 0, 0), 3);
        DUE.is("back() again", x.back(), 0);
        DUE.is("at(0, 0, 0) in bloom", x.at(0, 0, 0), 1);
        DUE.is("back() of none", x.back(), GorseGold.NOT);
    }

    private static void lay(GorseGold x, int form, int... items) {
        x.sheet(0, form, items.length);
        for (int i = 0; i < items.length; i++) {
            x.lay(0, form, i, items[i]);
        }
    }

    private static void read() {
        for (int form = 0; form < 3; form++) {
            GorseGold x = Due.gold("ca1;ca1", "");
            x.event(2, 3, 0);
            x.event(2, 4, 0);
            x.event(2, 5, 0);
            lay(x, form, 0, 1, 1, 1, 2, 0);
            DUE.is("read(0) of form " + form, x.read(0), 2);
            DUE.is("count(4)", x.count(4), 2);
            DUE.is("the first is a fire", x.at(1, 1, 0), 2);
            DUE.is("the second is a goat", x.at(2, 0, 0), 3);
            DUE.is("what was told before is gone", x.at(5, 0, 0), 1);
            DUE.is("back() of what was read", x.back(), 1);
        }
    }

    private static void readStops() {
        GorseGold x = Due.gold("ca1", "");
        lay(x, 2, 3, 23, 9, 0, 0);
        DUE.is("two items are no event", x.read(0), 1);
        lay(x, 2, 3, 23, 9, 4, 0, 0, 0, 0, 0);
        DUE.is("no kind 4", x.read(0), 1);
        lay(x, 2, 3, 23, 9, 0, 24, 0, 0, 0, 0);
        DUE.is("no month 24", x.read(0), 1);
        lay(x, 2, 3, 23, 9, 0, 0, 10, 0, 0, 0);
        DUE.is("no bush 10", x.read(0), 1);
        lay(x, 0, 3, 23, 9, 0, 0, -1, 0, 0, 0);
        DUE.is("no bush -1", x.read(0), 1);
        lay(x, 2, -1, 0, 0);
        DUE.is("no kind -1", x.read(0), 0);
        DUE.is("none are left", x.count(4), 0);
        x.sheet(0, 1, 60);
        DUE.is("eight at most", x.read(0), 8);
        x.sheet(0, 1, 24);
        DUE.is("eight exactly", x.read(0), 8);
        x.sheet(0, 1, 0);
        DUE.is("an empty sheet", x.read(0), 0);
    }

    private static void readRefuses() {
        GorseGold x = new GorseGold();
        x.event(0, 0, 0);
        DUE.is("read(-1)", x.read(-1), GorseGold.BAD);
        DUE.is("read(4)", x.read(4), GorseGold.BAD);
        DUE.is("no finding yet", x.count(8), 0);
        DUE.is("read(3) of a lost one", x.read(3), -11);
        DUE.is("the finding", x.count(8), 1);
        DUE.is("events stay", x.count(4), 1);
    }
}
