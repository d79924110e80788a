/** Promises 35 and 36: count, digest (what goes into it: CountsBoundaryTest). */
public final class CountsTest {
    private static final Due DUE = new Due("CountsTest");

    public static void main(String[] args) {
        count();
        countOfFindings();
        digestTellsApart();
        digestChangesNothing();
        DUE.end();
    }

    private static void count() {
        GorseGold x = Due.gold("ca2;dg1", "a0;b1;c2");
        Due.events(x, "g:1:0 p:3:0");
        x.seen(0, 0, 0);
        int[] want = {2, 3, 7, 8, 2, 6 + 2, 2 * 10 + 6, 1, 0};
        for (int what = 0; what <= 8; what++) {
            DUE.is("count(" + what + ")", x.count(what), want[what]);
        }
        DUE.is("count(-1)", x.count(-1), GorseGold.BAD);
        DUE.is("count(9)", x.count(9), GorseGold.BAD);
    }

    private static void countOfFindings() {
        GorseGold x = new GorseGold();
        x.write(0);
        DUE.is("NULL", x.count(8), 1);
        x.sheet(0, 0, -1);
        DUE.is("SIZE", x.count(8), 5);
        x.sheet(0, 0, 1);
        x.sheet(1, 1, 1);
        DUE.is("what is well changes nothing", x.count(8), 5);
        x.copy(0, 0, 1, 0, 1);
        DUE.is("STORE", x.count(8), 4);
        x.lay(0, 1, 0, 0);
        DUE.is("CAST", x.count(8), 3);
        x.get(0, 0, 1);
        DUE.is("INDEX", x.count(8), 2);
        x.back();
        x.type(9, 9);
        DUE.is("other refusals change nothing", x.count(8), 2);
    }

    private static void digestTellsApart() {
        GorseGold x = Due.gold("ca2;dg1", "a0");
        long before = x.digest();
        DUE.is("digest() again", x.digest(), before);
        x.seen(0, 0, 3);
        DUE.holds("what was seen changes it", x.digest() != before);
        x.forget();
        DUE.is("digest() as it was", x.digest(), before);
        x.set(0, 51);
        DUE.holds("faith changes it", x.digest() != before);
        x.set(0, 50);
        x.event(3, 20, 9);
        DUE.holds("an event changes it", x.digest() != before);
        x.back();
        x.sheet(0, 0, 5);
        DUE.is("sheets do not change it", x.digest(), before);
    }

    private static void digestChangesNothing() {
        GorseGold x = new GorseGold();
        x.write(0);
        x.digest();
        DUE.is("count(8) stays", x.count(8), 1);
    }
}
