/** Promises 9 to 11: event, back, read. */
public final class EventsTest {
    private static final Due DUE = new Due("EventsTest");

    public static void main(String[] args) {
        event();
        back();
        read();
        readAdds();
        readStops();
        readRefuses();
        DUE.end();
    }

    private static void event() {
        GorseGold x = new GorseGold();
        DUE.is("event(-1, 0, 0)", x.event(-1, 0, 0), GorseGold.BAD);
        DUE.is("event(4, 0, 0)", x.event(4, 0, 0), GorseGold.BAD);
        DUE.is("event(0, -1, 0)", x.event(0, -1, 0), GorseGold.BAD);
        DUE.is("event(0, 24, 0)", x.event(0, 24, 0), GorseGold.BAD);
        DUE.is("event(0, 0, -1)", x.event(0, 0, -1), GorseGold.BAD);
        DUE.is("event(2, 0, 10)", x.event(2, 0, 10), GorseGold.BAD);
        for (int i = 1; i <= 8; i++) {
            DUE.is("event " + i, x.event(i % 4, i + 15, i + 1), i);
        }
        DUE.is("a ninth event", x.event(0, 0, 0), GorseGold.FULL);
        DUE.is("BAD ahead of FULL", x.event(0, 24, 0), GorseGold.BAD);
        DUE.is("count(4)", x.count(4), 8);
    }

    private static void back() {
        GorseGold x = Due.gold("ca1", "");
        x.event(1, 0, 0);
        x.event(0, 0, 0);
        DUE.is("at(0, 0, 0) burnt", x.at(0, 0, 0), 2);
        DUE.is("back()", x.back(), 1);
        DUE.is("at(0, 0, 0) eaten", x.at(0, 0, 0), 3);
        DUE.is("back() again", x.back(), 0);
        DUE.is("at(0, 0, 0) in bloom", x.at(0, 0, 0), 1);
        DUE.is("back() of none", x.back(), GorseGold.NOT);
    }

    private static void lay(GorseGold x, int form, int... items) {
        x.sheet(0, form, items.length);
        for (int i = 0; i < items.length; i++) {
            x.lay(0, form, i, items[i]);
        }
    }

    private static void read() {
        for (int form = 0; form < 3; form++) {
            GorseGold x = Due.gold("ca1;ca1", "");
            lay(x, form, 0, 1, 1, 1, 2, 0);
            DUE.is("read(0) of form " + form, x.read(0), 2);
            DUE.is("count(4)", x.count(4), 2);
            DUE.is("the first is a fire", x.at(1, 1, 0), 2);
            DUE.is("the second is a goat", x.at(2, 0, 0), 3);
            DUE.is("back() of what was read", x.back(), 1);
            DUE.is("the last one is undone", x.at(2, 0, 0), 1);
            DUE.is("the first one is not", x.at(1, 1, 0), 2);
        }
    }

    private static void readAdds() {
        GorseGold x = Due.gold("ca1;ca1", "");
        x.event(2, 5, 0);
        lay(x, 0, 0, 1, 1, 1, 2, 0);
        DUE.is("as many as were brought", x.read(0), 2);
        DUE.is("behind the one told", x.count(4), 3);
        DUE.is("the one told is still there", x.at(5, 0, 0), 4);
        DUE.is("as many again", x.read(0), 2);
        DUE.is("behind all others", x.count(4), 5);
        DUE.is("back() behind two reads", x.back(), 4);
        DUE.is("back() again", x.back(), 3);
        DUE.is("what was read first is still there", x.at(2, 0, 0), 3);
        x.event(3, 0, 0);
        x.event(3, 0, 0);
        x.event(3, 0, 0);
        x.event(3, 0, 0);
        DUE.is("for one there is room", x.read(0), 1);
        DUE.is("eight at most", x.count(4), 8);
        DUE.is("for none there is room", x.read(0), 0);
        DUE.is("eight as before", x.count(4), 8);
        DUE.is("no finding", x.count(8), 0);
        DUE.is("the one told is the first", x.at(5, 0, 0), 4);
    }

    private static void readStops() {
        stops("two items are no event", 1, 2, 3, 23, 9, 0, 0);
        stops("no kind 4", 1, 2, 3, 23, 9, 4, 0, 0, 0, 0, 0);
        stops("no month 24", 1, 2, 3, 23, 9, 0, 24, 0, 0, 0, 0);
        stops("no month -1", 1, 1, 3, 23, 9, 0, -1, 0, 0, 0, 0);
        stops("no bush 10", 1, 2, 3, 23, 9, 0, 0, 10, 0, 0, 0);
        stops("no bush -1", 1, 0, 3, 23, 9, 0, 0, -1, 0, 0, 0);
        stops("no kind -1", 0, 2, -1, 0, 0);
        stops("eight at most", 8, 1, new int[60]);
        stops("eight exactly", 8, 1, new int[24]);
        stops("an empty sheet", 0, 1);
    }

    private static void stops(String why, int due, int form, int... items) {
        GorseGold x = Due.gold("ca1", "");
        lay(x, form, items);
        DUE.is(why, x.read(0), due);
        DUE.is(why + ": count(4)", x.count(4), due);
    }

    private static void readRefuses() {
        GorseGold x = new GorseGold();
        x.event(0, 0, 0);
        DUE.is("read(-1)", x.read(-1), GorseGold.BAD);
        DUE.is("read(4)", x.read(4), GorseGold.BAD);
        DUE.is("no finding yet", x.count(8), 0);
        DUE.is("read(3) of a lost one", x.read(3), -11);
        DUE.is("the finding", x.count(8), 1);
        DUE.is("events stay", x.count(4), 1);
    }
}
