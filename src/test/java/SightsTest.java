/** Promises 22 to 26: seen, forget, never, was, ask. */
public final class SightsTest {
    private static final Due DUE = new Due("SightsTest");

    public static void main(String[] args) {
        seen();
        forget();
        never();
        began();
        kind();
        ask();
        DUE.end();
    }

    private static void seen() {
        GorseGold x = new GorseGold();
        DUE.is("seen(-1, 0, 0)", x.seen(-1, 0, 0), GorseGold.BAD);
        DUE.is("seen(24, 0, 0)", x.seen(24, 0, 0), GorseGold.BAD);
        DUE.is("seen(0, -1, 0)", x.seen(0, -1, 0), GorseGold.BAD);
        DUE.is("seen(0, 10, 0)", x.seen(0, 10, 0), GorseGold.BAD);
        DUE.is("seen(0, 0, -1)", x.seen(0, 0, -1), GorseGold.BAD);
        DUE.is("seen(0, 0, 5)", x.seen(0, 0, 5), GorseGold.BAD);
        for (int i = 1; i <= 8; i++) {
            DUE.is("seen " + i, x.seen(i + 15, i + 1, i % 5), i);
        }
        DUE.is("a ninth", x.seen(0, 0, 0), GorseGold.FULL);
        DUE.is("BAD ahead of FULL", x.seen(0, 0, 5), GorseGold.BAD);
        DUE.is("count(7)", x.count(7), 8);
    }

    private static void forget() {
        GorseGold x = new GorseGold();
        DUE.is("forget() of none", x.forget(), 0);
        x.seen(0, 0, 0);
        x.seen(0, 0, 1);
        DUE.is("forget()", x.forget(), 2);
        DUE.is("count(7)", x.count(7), 0);
    }

    private static void never() {
        GorseGold x = Due.gold("ca1;ea1", "");
        DUE.is("no events", x.never(), 0);
        Due.events(x, "f:0:0 g:0:0 p:0:0 r:0:5");
        DUE.is("nothing seen", x.never(), 15);
        x.seen(0, 0, 2);
        DUE.is("burnt: the fire was", x.never(), 14);
        x.forget();
        x.seen(0, 0, 3);
        DUE.is("eaten: the fire never was", x.never(), 1);
        x.seen(1, 1, 4);
        DUE.is("and the frost was", x.never(), 1);
        x.seen(1, 1, 1);
        DUE.is("black and in bloom", x.never(), 0);
        x.forget();
        x.seen(0, 2, 0);
        DUE.is("a bush that is not there", x.never(), 0);
        x.forget();
        x.seen(0, 0, 1);
        DUE.is("it would take three", x.never(), 0);
    }

    private static void began() {
        GorseGold x = Due.gold("ca1;ea1;da1", "");
        DUE.is("nothing seen", x.was(0, 0), 4095);
        x.seen(8, 0, 1);
        DUE.is("in bloom in 8", x.was(0, 0), 0b000111111000);
        DUE.is("by another bush's month", x.was(1, 0), 0);
        x.seen(19, 0, 0);
        DUE.is("green in 7", x.was(0, 0), 1 << 8);
        x.forget();
        x.seen(1, 1, 1);
        DUE.is("over the end of the year", x.was(1, 0), 1 | 1 << 1 | 1 << 10 | 1 << 11);
        DUE.is("another bush, all fits", x.was(0, 0), 4095);
        Due.events(x, "f:0:1");
        DUE.is("it was burnt", x.was(1, 0), 0);
        x.forget();
        x.seen(1, 1, 2);
        DUE.is("burnt by any month", x.was(1, 0), 4095);
        x.seen(0, 9, 0);
        DUE.is("a bush that is not there", x.was(1, 0), 0);
        DUE.is("its own month stays", x.bush(1, 1), 0);
        DUE.is("was(3, 0)", x.was(3, 0), GorseGold.BAD);
        DUE.is("was(-1, 0)", x.was(-1, 0), GorseGold.BAD);
        DUE.is("was(0, 2)", x.was(0, 2), GorseGold.BAD);
        DUE.is("was(0, -1)", x.was(0, -1), GorseGold.BAD);
    }

    private static void kind() {
        GorseGold x = Due.gold("ca1;ea1", "");
        DUE.is("nothing seen", x.was(0, 1), 7);
        x.seen(3, 0, 1);
        DUE.is("in bloom in its fourth month", x.was(0, 1), 3);
        x.seen(4, 0, 0);
        DUE.is("and green in its fifth", x.was(0, 1), 2);
        DUE.is("by another bush's kind", x.was(1, 1), 0);
        x.forget();
        Due.events(x, "f:0:0 r:13:0 g:20:1");
        x.seen(9, 0, 2);
        DUE.is("burnt for more than 9", x.was(0, 1), 6);
        x.forget();
        x.seen(14, 0, 4);
        DUE.is("black for 2", x.was(0, 1), 2);
        x.forget();
        x.seen(13, 0, 1);
        DUE.is("black not at all", x.was(0, 1), 4);
        x.forget();
        x.seen(22, 1, 3);
        DUE.is("eaten for 3", x.was(1, 1), 4);
    }

    private static void ask() {
        GorseGold x = Due.gold("ca1;da1", "");
        DUE.is("halves in month 0", x.ask(0), 0);
        DUE.is("3 and 9 in any", x.ask(1), 0);
        Due.events(x, "g:0:0");
        DUE.is("eaten ones are all alike", x.ask(0), 2);
        x.seen(5, 0, 1);
        DUE.is("began in 0 to 5: 2 tells 3 of 6", x.ask(0), 2);
        x.seen(2, 0, 1);
        DUE.is("began in 0 to 2, 11, 10, 9 and 0 to 5", x.was(0, 0), 7);
        DUE.is("of three, one and two", x.ask(0), 6);
        x.seen(6, 0, 1);
        DUE.is("began in 1 or 2", x.was(0, 0), 6);
        DUE.is("two apart", x.ask(0), 7);
        x.seen(7, 0, 1);
        DUE.is("only one is left: any month", x.ask(0), 0);
        x.seen(7, 0, 0);
        DUE.is("none is left: any month", x.ask(0), 0);
        DUE.is("ask(2)", x.ask(2), GorseGold.BAD);
        DUE.is("ask(-1)", x.ask(-1), GorseGold.BAD);
    }
}
