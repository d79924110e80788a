/** Promises 35 and 36: count, digest. */
public final class CountsTest {
    private static final Due DUE = new Due("CountsTest");

    public static void main(String[] args) {
        count();
        countOfFindings();
        digestOfANewObject();
        digestOfAHill();
        digestTellsApart();
        digestChangesNothing();
        DUE.end();
    }

    private static void count() {
        GorseGold x = Due.gold("ca2;dg1", "a0;b1;c2");
        Due.events(x, "g:1:0 p:3:0");
        x.seen(0, 0, 0);
        int[] want = {2, 3, 7, 8, 2, 6 + 2, 2 * 10 + 6, 1, 0};
        for (int what = 0; what <= 8; what++) {
            DUE.is("count(" + what + ")", x.count(what), want[what]);
        }
        DUE.is("count(-1)", x.count(-1), GorseGold.BAD);
        DUE.is("count(9)", x.count(9), GorseGold.BAD);
    }

    private static void countOfFindings() {
        GorseGold x = new GorseGold();
        x.write(0);
        DUE.is("NULL", x.count(8), 1);
        x.sheet(0, 0, -1);
        DUE.is("SIZE", x.count(8), 5);
        x.sheet(0, 0, 1);
        x.sheet(1, 1, 1);
        DUE.is("what is well changes nothing", x.count(8), 5);
        x.copy(0, 0, 1, 0, 1);
        DUE.is("STORE", x.count(8), 4);
        x.lay(0, 1, 0, 0);
        DUE.is("CAST", x.count(8), 3);
        x.get(0, 0, 1);
        DUE.is("INDEX", x.count(8), 2);
        x.back();
        x.type(9, 9);
        DUE.is("other refusals change nothing", x.count(8), 2);
    }

    private static long mixed(long h, long... values) {
        for (long v : values) {
            h = 31 * h + v;
        }
        return h;
    }

    /** Written out by hand from the document, for a hill with nothing on it. */
    private static void digestOfANewObject() {
        long h = mixed(17, 0, 0, 0, 0, 0, 24, 0, 0);
        h = mixed(h, -1, -1);
        for (int month = 0; month < 24; month++) {
            h = mixed(h, 0, 48 - 2 * month, 0);
        }
        for (int i = 0; i < 12; i++) {
            h = mixed(h, -1, -1);
        }
        h = mixed(h, 0xFFFFFF, 15, 0, -1, -1);
        h = mixed(h, 0, 0, 12, -1, -1, -1, -1, -1, 0, 0, 0);
        h = mixed(h, 0, 1, 1, 1, 1, 24, 15);
        DUE.is("digest() of a new object", new GorseGold().digest(), h);
    }

    /** Put together from the calls that the document names, on a hill with all there is. */
    private static void digestOfAHill() {
        GorseGold x = Due.gold("dc7;ca2;eg1", "a0;n1;s2;c0;x9");
        Due.events(x, "g:1:0 p:6:1 f:12:1 r:6:0 p:23:0");
        x.seen(6, 2, 4);
        x.seen(13, 1, 2);
        long h = 17;
        for (int what = 0; what <= 7; what++) {
            h = mixed(h, x.count(what));
        }
        h = mixed(h, x.fault(0), x.fault(1));
        for (int month = 0; month < 24; month++) {
            h = mixed(h, x.hill(month, 0), x.hill(month, 1), x.hill(month, 2));
        }
        for (int i = 0; i < 12; i++) {
            h = mixed(h, x.look(i, 0), x.look(i, 1));
        }
        for (int b = 0; b < 3; b++) {
            h = mixed(h, x.bush(b, 0), x.bush(b, 1), x.bush(b, 2));
            for (int month : new int[] {0, 6, 13, 23}) {
                h = mixed(h, x.at(month, b, 0), x.at(month, b, 1), x.at(month, b, 2));
            }
            h = mixed(h, x.was(b, 0), x.was(b, 1), x.ask(b));
        }
        h = mixed(h, x.bare(), x.run(), x.fake(), x.last(0), x.last(1), x.plant(0), x.plant(1), x.plant(2));
        h = mixed(h, x.send(0), x.send(1), x.send(2), x.save(-1), x.save(0), x.deal(0), x.deal(1), x.deal(2));
        h = mixed(h, x.never(), x.luck(5, 6, 0), x.luck(5, 6, 1), x.luck(5, 13, 0), x.luck(5, 13, 1));
        h = mixed(h, x.century(7, 6, 0), x.century(7, 6, 1));
        DUE.is("digest() of a hill", x.digest(), h);
    }

    private static void digestTellsApart() {
        GorseGold x = Due.gold("ca2;dg1", "a0");
        long before = x.digest();
        DUE.is("digest() again", x.digest(), before);
        x.seen(0, 0, 3);
        DUE.holds("what was seen changes it", x.digest() != before);
        x.forget();
        DUE.is("digest() as it was", x.digest(), before);
        x.set(0, 51);
        DUE.holds("faith changes it", x.digest() != before);
        x.set(0, 50);
        x.event(3, 20, 9);
        DUE.holds("an event changes it", x.digest() != before);
        x.back();
        x.sheet(0, 0, 5);
        DUE.is("sheets do not change it", x.digest(), before);
    }

    private static void digestChangesNothing() {
        GorseGold x = new GorseGold();
        x.write(0);
        x.digest();
        DUE.is("count(8) stays", x.count(8), 1);
    }
}
