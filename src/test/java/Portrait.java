/** All that can be seen of an object but count() 8, in one text; the object is used up by it. */
final class Portrait {
    private static final String TEN = "ca1;eb2;dc3;cd4;ee5;df6;cg7;eh8;di9;cj1";

    private final GorseGold x;
    private final StringBuilder told = new StringBuilder();

    private Portrait(GorseGold x) {
        this.x = x;
    }

    static String of(GorseGold x) {
        Portrait p = new Portrait(x);
        p.tell(x.digest());
        p.tellSheets();
        p.tellText(0);
        p.tellText(1);
        p.tellEvents();
        p.tell(x.forget());
        p.tell(x.set(0, 0));
        p.tell(x.set(1, 0));
        return p.told.toString();
    }

    private void tell(long answer) {
        told.append(answer).append(' ');
    }

    private void tellSheets() {
        for (int s = 0; s < 4; s++) {
            for (int form = 0; form < 3; form++) {
                tellItems(s, form);
            }
            tell(x.lose(s));
        }
    }

    private void tellItems(int s, int form) {
        for (int i = 0; i < 60; i++) {
            int item = x.get(s, form, i);
            if (item == Integer.MIN_VALUE) {
                return;
            }
            tell(item);
        }
    }

    /** Byte by byte from its end, as a fault hides what stands ahead of it. */
    private void tellText(int text) {
        for (int left = x.count(2 + text); left > 0; left--) {
            tell(x.fault(text));
            tellLastItem(text, x.count(text) - 1);
            tell(x.undo(text));
        }
    }

    private void tellLastItem(int text, int last) {
        for (int what = 0; last >= 0 && what < 3 - text; what++) {
            tell(text == 0 ? x.bush(last, what) : x.look(last, what));
        }
    }

    /** One by one from the last, on a hill with ten bushes, as an event may be of one that was not there. */
    private void tellEvents() {
        Due.type(x, 0, TEN);
        for (int left = x.count(4); left > 0; left--) {
            tell(x.digest());
            tell(x.back());
        }
        tell(x.digest());
    }
}
