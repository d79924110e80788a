/** Promises 29 to 34: sheet, lose, lay, get, copy, write. */
public final class SheetsTest {
    private static final Due DUE = new Due("SheetsTest");
    private static final int LEAST = Integer.MIN_VALUE;

    public static void main(String[] args) {
        sheet();
        lose();
        lay();
        layRefuses();
        get();
        copy();
        copyRefuses();
        write();
        DUE.end();
    }

    private static void sheet() {
        GorseGold x = new GorseGold();
        DUE.is("sheet(-1, 0, 0)", x.sheet(-1, 0, 0), GorseGold.BAD);
        DUE.is("sheet(4, 0, 0)", x.sheet(4, 0, 0), GorseGold.BAD);
        DUE.is("sheet(0, -1, 0)", x.sheet(0, -1, 0), GorseGold.BAD);
        DUE.is("sheet(0, 3, 0)", x.sheet(0, 3, 0), GorseGold.BAD);
        DUE.is("sheet(0, 0, 61)", x.sheet(0, 0, 61), GorseGold.BAD);
        DUE.is("BAD ahead of SIZE", x.sheet(0, 3, -1), GorseGold.BAD);
        DUE.is("no finding yet", x.count(8), 0);
        DUE.is("sheet(0, 0, -1)", x.sheet(0, 0, -1), -15);
        DUE.is("count(8)", x.count(8), 5);
        DUE.is("it is still lost", x.lose(0), -11);
        DUE.is("sheet(0, 0, 60)", x.sheet(0, 0, 60), 60);
        DUE.is("the last item", x.get(0, 0, 59), 0);
        x.lay(0, 0, 0, 7);
        DUE.is("SIZE changes nothing", x.sheet(0, 0, -9), -15);
        DUE.is("item 0 stays", x.get(0, 0, 0), 7);
        DUE.is("sheet(0, 0, 1)", x.sheet(0, 0, 1), 1);
        DUE.is("item 0 is new", x.get(0, 0, 0), 0);
        DUE.is("sheet(3, 2, 0)", x.sheet(3, 2, 0), 0);
    }

    private static void lose() {
        GorseGold x = new GorseGold();
        DUE.is("lose(-1)", x.lose(-1), GorseGold.BAD);
        DUE.is("lose(4)", x.lose(4), GorseGold.BAD);
        DUE.is("lose(0) of a lost one", x.lose(0), -11);
        DUE.is("count(8)", x.count(8), 1);
        x.sheet(0, 1, 60);
        x.sheet(1, 1, 0);
        DUE.is("lose(0)", x.lose(0), 60);
        DUE.is("lose(1)", x.lose(1), 0);
        DUE.is("lose(1) again", x.lose(1), -11);
    }

    private static void lay() {
        GorseGold x = new GorseGold();
        for (int form = 0; form < 3; form++) {
            x.sheet(form, form, 3);
        }
        int[] laid = {127, 128, 255, 256, -129, 32767, 32768, 65535, 65536, LEAST, Integer.MAX_VALUE, -1};
        for (int v : laid) {
            DUE.is("lay byte " + v, x.lay(0, 0, 2, v), 1);
            DUE.is("byte " + v, x.get(0, 0, 2), (byte) v);
            DUE.is("lay short " + v, x.lay(1, 1, 2, v), 1);
            DUE.is("short " + v, x.get(1, 1, 2), (short) v);
            DUE.is("lay int " + v, x.lay(2, 2, 2, v), 1);
            DUE.is("int " + v, x.get(2, 2, 2), v);
        }
        DUE.is("the item ahead stays", x.get(2, 2, 1), 0);
    }

    private static void layRefuses() {
        GorseGold x = new GorseGold();
        x.sheet(0, 1, 2);
        DUE.is("lay(-1, 1, 0, 0)", x.lay(-1, 1, 0, 0), GorseGold.BAD);
        DUE.is("lay(4, 1, 0, 0)", x.lay(4, 1, 0, 0), GorseGold.BAD);
        DUE.is("lay(0, -1, 0, 0)", x.lay(0, -1, 0, 0), GorseGold.BAD);
        DUE.is("BAD ahead of NULL", x.lay(1, 3, 0, 0), GorseGold.BAD);
        DUE.is("NULL", x.lay(1, 0, 9, 0), -11);
        DUE.is("CAST ahead of INDEX", x.lay(0, 0, 9, 0), -13);
        DUE.is("count(8)", x.count(8), 3);
        DUE.is("INDEX 2", x.lay(0, 1, 2, 0), -12);
        DUE.is("INDEX -1", x.lay(0, 1, -1, 0), -12);
        DUE.is("INDEX, the greatest", x.lay(0, 1, Integer.MAX_VALUE, 0), -12);
        DUE.is("INDEX, the least", x.lay(0, 1, LEAST, 0), -12);
        DUE.is("count(8) of INDEX", x.count(8), 2);
    }

    private static void get() {
        GorseGold x = new GorseGold();
        x.sheet(0, 0, 1);
        x.lay(0, 0, 0, -5);
        DUE.is("get(0, 0, 0)", x.get(0, 0, 0), -5);
        DUE.is("BAD sheet", x.get(4, 0, 0), LEAST);
        DUE.is("BAD sheet below", x.get(-1, 0, 0), LEAST);
        DUE.is("BAD form", x.get(1, 3, 0), LEAST);
        DUE.is("BAD is no finding", x.count(8), 0);
        DUE.is("NULL", x.get(1, 0, 9), LEAST);
        DUE.is("count(8) of NULL", x.count(8), 1);
        DUE.is("INDEX", x.get(0, 0, 1), LEAST);
        DUE.is("count(8) of INDEX", x.count(8), 2);
        DUE.is("CAST", x.get(0, 2, 1), LEAST);
        DUE.is("count(8) of CAST", x.count(8), 3);
        DUE.is("INDEX below", x.get(0, 0, -1), LEAST);
        DUE.is("count(8) of INDEX below", x.count(8), 2);
        DUE.is("a good answer", x.get(0, 0, 0), -5);
        DUE.is("the latest finding stays", x.count(8), 2);
    }

    private static GorseGold counted() {
        GorseGold x = new GorseGold();
        x.sheet(0, 2, 5);
        x.sheet(1, 2, 3);
        x.sheet(2, 1, 5);
        for (int i = 0; i < 5; i++) {
            x.lay(0, 2, i, i + 1);
        }
        return x;
    }

    private static void itemsAre(String told, GorseGold x, int s, int... want) {
        for (int i = 0; i < want.length; i++) {
            DUE.is(told + ", item " + i, x.get(s, 2, i), want[i]);
        }
    }

    private static void copy() {
        GorseGold x = counted();
        DUE.is("to another", x.copy(0, 3, 1, 1, 2), 1);
        itemsAre("to another", x, 1, 0, 4, 5);
        DUE.is("up within itself", x.copy(0, 0, 0, 1, 4), 1);
        itemsAre("up within itself", x, 0, 1, 1, 2, 3, 4);
        x = counted();
        DUE.is("down within itself", x.copy(0, 1, 0, 0, 4), 1);
        itemsAre("down within itself", x, 0, 2, 3, 4, 5, 5);
        DUE.is("none, at both ends", x.copy(0, 5, 1, 3, 0), 1);
        DUE.is("all of it to itself", x.copy(0, 0, 0, 0, 5), 1);
    }

    private static void copyRefuses() {
        GorseGold x = counted();
        DUE.is("BAD s", x.copy(-1, 0, 0, 0, 0), GorseGold.BAD);
        DUE.is("BAD s above", x.copy(4, 0, 0, 0, 0), GorseGold.BAD);
        DUE.is("BAD t ahead of NULL", x.copy(3, 0, 4, 0, 0), GorseGold.BAD);
        DUE.is("BAD t below", x.copy(0, 0, -1, 0, 0), GorseGold.BAD);
        DUE.is("NULL s", x.copy(3, -1, 2, 0, 0), -11);
        DUE.is("NULL t", x.copy(0, -1, 3, 0, 0), -11);
        DUE.is("STORE ahead of INDEX", x.copy(0, -1, 2, 0, 0), -14);
        DUE.is("count(8)", x.count(8), 4);
        DUE.is("INDEX i below", x.copy(0, -1, 1, 0, 1), -12);
        DUE.is("INDEX j below", x.copy(0, 0, 1, -1, 1), -12);
        DUE.is("INDEX n below", x.copy(0, 0, 1, 0, -1), -12);
        DUE.is("INDEX of s", x.copy(0, 4, 1, 0, 2), -12);
        DUE.is("INDEX of t", x.copy(0, 0, 1, 2, 2), -12);
        DUE.is("INDEX i past the end", x.copy(0, 6, 1, 0, 0), -12);
        DUE.is("INDEX j past the end", x.copy(0, 0, 1, 4, 0), -12);
        DUE.is("INDEX of a sum that wraps", x.copy(0, 1, 1, 1, Integer.MAX_VALUE), -12);
        DUE.is("INDEX of a place that wraps", x.copy(0, Integer.MAX_VALUE, 1, 0, 1), -12);
        itemsAre("nothing changed", x, 1, 0, 0, 0);
    }

    private static void write() {
        GorseGold x = Due.gold("ca3", "a0");
        DUE.is("write(-1)", x.write(-1), GorseGold.BAD);
        DUE.is("write(4)", x.write(4), GorseGold.BAD);
        DUE.is("write(0) of a lost one", x.write(0), -11);
        DUE.is("count(8)", x.count(8), 1);
        x.sheet(0, 0, 60);
        x.lay(0, 0, 24, 77);
        DUE.is("24 at most", x.write(0), 24);
        for (int m = 0; m < 24; m++) {
            DUE.is("written month " + m, x.get(0, 0, m), x.hill(m, 1));
        }
        DUE.is("item 24 stays", x.get(0, 0, 24), 77);
        x.sheet(1, 1, 2);
        DUE.is("as many as there are items", x.write(1), 2);
        DUE.is("the first", x.get(1, 1, 0), 53);
        DUE.is("the second", x.get(1, 1, 1), 51);
        x.sheet(2, 2, 0);
        DUE.is("none", x.write(2), 0);
    }
}
