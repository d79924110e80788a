/** Promises 1 to 8: a new object, type, wipe, undo, fault, bush, look, set. */
public final class TextsTest {
    private static final Due DUE = new Due("TextsTest");

    public static void main(String[] args) {
        aNewObject();
        type();
        wipe();
        undo();
        faultOfBushes();
        faultOfLooks();
        aFaultEmpties();
        bush();
        look();
        set();
        DUE.end();
    }

    private static void aNewObject() {
        GorseGold x = new GorseGold();
        for (int what = 0; what <= 4; what++) {
            DUE.is("new count(" + what + ")", x.count(what), 0);
        }
        DUE.is("new count(5)", x.count(5), 24);
        DUE.is("new count(6)", x.count(6), 0);
        DUE.is("new count(7)", x.count(7), 0);
        DUE.is("new count(8)", x.count(8), 0);
        for (int s = 0; s < 4; s++) {
            DUE.is("new lose(" + s + ")", x.lose(s), -11);
        }
        DUE.is("new faith", x.set(0, 0), 50);
        DUE.is("new doubt", x.set(1, 0), 20);
        DUE.is("new back()", x.back(), GorseGold.NOT);
    }

    private static void type() {
        GorseGold x = new GorseGold();
        DUE.is("type(0, 0)", x.type(0, 0), 1);
        DUE.is("type(0, 255)", x.type(0, 255), 2);
        DUE.is("type(1, 97)", x.type(1, 97), 1);
        DUE.is("type(0, -1)", x.type(0, -1), GorseGold.BAD);
        DUE.is("type(0, 256)", x.type(0, 256), GorseGold.BAD);
        DUE.is("type(-1, 0)", x.type(-1, 0), GorseGold.BAD);
        DUE.is("type(2, 0)", x.type(2, 0), GorseGold.BAD);
        DUE.is("bytes of 0", x.count(2), 2);
        DUE.is("bytes of 1", x.count(3), 1);
        for (int i = 3; i <= 39; i++) {
            DUE.is("type 0, byte " + i, x.type(0, 120), i);
        }
        DUE.is("type 0, byte 40", x.type(0, 120), GorseGold.FULL);
        for (int i = 2; i <= 35; i++) {
            DUE.is("type 1, byte " + i, x.type(1, 120), i);
        }
        DUE.is("type 1, byte 36", x.type(1, 120), GorseGold.FULL);
        DUE.is("BAD ahead of FULL", x.type(1, 256), GorseGold.BAD);
        DUE.is("full bytes of 0", x.count(2), 39);
        DUE.is("full bytes of 1", x.count(3), 35);
    }

    private static void wipe() {
        GorseGold x = Due.gold("ca1;ex", "a0");
        DUE.is("wipe(0)", x.wipe(0), 6);
        DUE.is("wiped fault", x.fault(0), GorseGold.NONE);
        DUE.is("wipe(0) again", x.wipe(0), 0);
        DUE.is("looks stay", x.count(1), 1);
        DUE.is("wipe(1)", x.wipe(1), 2);
        DUE.is("no looks", x.count(1), 0);
        DUE.is("wipe(2)", x.wipe(2), GorseGold.BAD);
        DUE.is("wipe(-1)", x.wipe(-1), GorseGold.BAD);
    }

    private static void undo() {
        GorseGold x = Due.gold("ca1;", "a");
        DUE.is("undo(0)", x.undo(0), 3);
        DUE.is("a bush again", x.count(0), 1);
        DUE.is("undo(1)", x.undo(1), 0);
        DUE.is("undo(1) of none", x.undo(1), GorseGold.NOT);
        DUE.is("undo(2)", x.undo(2), GorseGold.BAD);
        DUE.is("undo(-1)", x.undo(-1), GorseGold.BAD);
    }

    private static void faultIs(int text, String signs, int want) {
        GorseGold x = new GorseGold();
        Due.type(x, text, signs);
        DUE.is("fault(" + text + ") of '" + signs + "'", x.fault(text), want);
    }

    private static void faultOfBushes() {
        faultIs(0, "", GorseGold.NONE);
        faultIs(0, "c", 1);
        faultIs(0, "ca", 2);
        faultIs(0, "ca1", GorseGold.NONE);
        faultIs(0, "el9", GorseGold.NONE);
        faultIs(0, "dl9;ca1", GorseGold.NONE);
        faultIs(0, "b", 0);
        faultIs(0, "f", 0);
        faultIs(0, "C", 0);
        faultIs(0, ";", 0);
        faultIs(0, "c`", 1);
        faultIs(0, "cm1", 1);
        faultIs(0, "ca0", 2);
        faultIs(0, "ca:", 2);
        faultIs(0, "ca1,", 3);
        faultIs(0, "ca1c", 3);
        faultIs(0, "ca1;", 4);
        faultIs(0, "ca1;;", 4);
        faultIs(0, "ca1;da", 6);
        faultIs(0, "ca1;da1;e", 9);
        faultIs(0, "x;ca1;b", 0);
        faultIs(0, "ca1;ca1;ca1;ca1;ca1;ca1;ca1;ca1;ca1;ca1", GorseGold.NONE);
        faultIs(0, "ca1;ca1;ca1;ca1;ca1;ca1;ca1;ca1;ca1;caa", 38);
        DUE.is("fault(2)", new GorseGold().fault(2), GorseGold.BAD);
        DUE.is("fault(-1)", new GorseGold().fault(-1), GorseGold.BAD);
    }

    private static void faultOfLooks() {
        faultIs(1, "", GorseGold.NONE);
        faultIs(1, "a", 1);
        faultIs(1, "a0", GorseGold.NONE);
        faultIs(1, "x9", GorseGold.NONE);
        faultIs(1, "y", 0);
        faultIs(1, "`", 0);
        faultIs(1, "a/", 1);
        faultIs(1, "a:", 1);
        faultIs(1, "a0a", 2);
        faultIs(1, "a0;", 3);
        faultIs(1, "a0;b", 4);
        faultIs(1, "a0;b1;x9;l5", GorseGold.NONE);
        faultIs(1, "a0;a0;a0;a0;a0;a0;a0;a0;a0;a0;a0;a0", GorseGold.NONE);
    }

    private static void aFaultEmpties() {
        GorseGold x = Due.gold("ca1;ea2;", "a0;b1;");
        DUE.is("count(0) of a fault", x.count(0), 0);
        DUE.is("count(1) of a fault", x.count(1), 0);
        DUE.is("count(2) of a fault", x.count(2), 8);
        DUE.is("count(3) of a fault", x.count(3), 6);
        DUE.is("bush(0, 0) of a fault", x.bush(0, 0), GorseGold.BAD);
        DUE.is("look(0, 0) of a fault", x.look(0, 0), GorseGold.NONE);
        DUE.is("bare() of a fault", x.bare(), 0xFFFFFF);
        x.undo(0);
        DUE.is("count(0) when mended", x.count(0), 2);
    }

    private static void bush() {
        GorseGold x = Due.gold("ca1;ef5;dl9", "");
        int[][] want = {{0, 0, 1}, {1, 5, 5}, {2, 11, 9}};
        for (int b = 0; b < 3; b++) {
            for (int what = 0; what < 3; what++) {
                DUE.is("bush(" + b + ", " + what + ")", x.bush(b, what), want[b][what]);
            }
        }
        DUE.is("bush(3, 0)", x.bush(3, 0), GorseGold.BAD);
        DUE.is("bush(-1, 0)", x.bush(-1, 0), GorseGold.BAD);
        DUE.is("bush(0, 3)", x.bush(0, 3), GorseGold.BAD);
        DUE.is("bush(0, -1)", x.bush(0, -1), GorseGold.BAD);
    }

    private static void look() {
        GorseGold x = Due.gold("", "a9;x0;m4");
        DUE.is("look(0, 0)", x.look(0, 0), 0);
        DUE.is("look(0, 1)", x.look(0, 1), 9);
        DUE.is("look(1, 0)", x.look(1, 0), 23);
        DUE.is("look(1, 1)", x.look(1, 1), 0);
        DUE.is("look(2, 0)", x.look(2, 0), 12);
        DUE.is("look(3, 1)", x.look(3, 1), GorseGold.NONE);
        DUE.is("look(11, 0)", x.look(11, 0), GorseGold.NONE);
        DUE.is("look(12, 0)", x.look(12, 0), GorseGold.BAD);
        DUE.is("look(-1, 0)", x.look(-1, 0), GorseGold.BAD);
        DUE.is("look(0, 2)", x.look(0, 2), GorseGold.BAD);
        DUE.is("look(11, -1)", x.look(11, -1), GorseGold.BAD);
    }

    private static void set() {
        GorseGold x = new GorseGold();
        DUE.is("set(0, 100)", x.set(0, 100), 50);
        DUE.is("set(0, 0)", x.set(0, 0), 100);
        DUE.is("set(0, 101)", x.set(0, 101), GorseGold.BAD);
        DUE.is("set(0, -1)", x.set(0, -1), GorseGold.BAD);
        DUE.is("set(1, 50)", x.set(1, 50), 20);
        DUE.is("set(1, 51)", x.set(1, 51), GorseGold.BAD);
        DUE.is("set(1, -1)", x.set(1, -1), GorseGold.BAD);
        DUE.is("set(1, 0)", x.set(1, 0), 50);
        DUE.is("set(2, 0)", x.set(2, 0), GorseGold.BAD);
        DUE.is("set(-1, 0)", x.set(-1, 0), GorseGold.BAD);
        DUE.is("faith stays", x.set(0, 7), 0);
    }
}
