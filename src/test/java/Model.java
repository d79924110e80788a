import java.math.BigInteger;
import java.util.ArrayList;
import java.util.HashMap;
import java.util.List;
import java.util.Map;

/**
 * The document told again as plainly as it can be, month by month and event by event, without
 * masks and without haste, for ModelTest to set beside the class.
 */
final class Model {
    record Bush(int kind, int begin, int sparks) {}

    record Look(int month, int bush) {}

    record Event(int kind, int month, int bush) {}

    record Sight(int month, int bush, int is) {}

    /** A sheet as the Java row that it is. */
    private final Object[] sheets = new Object[4];
    private final List<List<Integer>> texts = List.of(new ArrayList<>(), new ArrayList<>());
    private final List<Event> events = new ArrayList<>();
    private final List<Sight> sights = new ArrayList<>();
    private int faith = 50;
    private int doubt = 20;
    private int latest = 0;

    // ---- texts

    int type(int text, int b) {
        if (text < 0 || text > 1 || b < 0 || b > 255) {
            return -2;
        }
        if (texts.get(text).size() == (text == 0 ? 39 : 35)) {
            return -4;
        }
        texts.get(text).add(b);
        return texts.get(text).size();
    }

    int wipe(int text) {
        if (text < 0 || text > 1) {
            return -2;
        }
        int had = texts.get(text).size();
        texts.get(text).clear();
        return had;
    }

    int undo(int text) {
        if (text < 0 || text > 1) {
            return -2;
        }
        List<Integer> bytes = texts.get(text);
        if (bytes.isEmpty()) {
            return -3;
        }
        bytes.remove(bytes.size() - 1);
        return bytes.size();
    }

    private String string(int text) {
        StringBuilder s = new StringBuilder();
        for (int b : texts.get(text)) {
            s.append((char) b);
        }
        return s.toString();
    }

    /** The longest beginning that some well text begins with, found by trying to complete it. */
    int fault(int text) {
        if (text < 0 || text > 1) {
            return -2;
        }
        String s = string(text);
        if (s.isEmpty() || isWell(text, s)) {
            return -1;
        }
        for (int end = 1; end <= s.length(); end++) {
            if (!canGoOn(text, s.substring(0, end))) {
                return end - 1;
            }
        }
        return s.length();
    }

    private static boolean isWell(int text, String s) {
        return text == 0 ? s.matches("[ced][a-l][1-9](;[ced][a-l][1-9]){0,9}")
            : s.matches("[a-x][0-9](;[a-x][0-9]){0,11}");
    }

    private static boolean canGoOn(int text, String s) {
        String[] ends = text == 0 ? new String[] {"", "1", "a1", "ca1"} : new String[] {"", "0", "a0"};
        for (String end : ends) {
            if (isWell(text, s + end)) {
                return true;
            }
        }
        return false;
    }

    private List<Bush> bushes() {
        List<Bush> found = new ArrayList<>();
        if (isWell(0, string(0))) {
            for (String s : string(0).split(";")) {
                found.add(new Bush("ced".indexOf(s.charAt(0)), s.charAt(1) - 'a', s.charAt(2) - '0'));
            }
        }
        return found;
    }

    private List<Look> looks() {
        List<Look> found = new ArrayList<>();
        if (isWell(1, string(1))) {
            for (String s : string(1).split(";")) {
                found.add(new Look(s.charAt(0) - 'a', s.charAt(1) - '0'));
            }
        }
        return found;
    }

    int bush(int bush, int what) {
        if (bush < 0 || bush >= bushes().size() || what < 0 || what > 2) {
            return -2;
        }
        Bush b = bushes().get(bush);
        return new int[] {b.kind, b.begin, b.sparks}[what];
    }

    int look(int i, int what) {
        if (i < 0 || i > 11 || what < 0 || what > 1) {
            return -2;
        }
        if (i >= looks().size()) {
            return -1;
        }
        return what == 0 ? looks().get(i).month : looks().get(i).bush;
    }

    int set(int what, int v) {
        if (what < 0 || what > 1 || v < 0 || v > (what == 0 ? 100 : 50)) {
            return -2;
        }
        int was = what == 0 ? faith : doubt;
        if (what == 0) {
            faith = v;
        } else {
            doubt = v;
        }
        return was;
    }

    // ---- events

    private static boolean mayBe(int kind, int month, int bush) {
        return kind >= 0 && kind <= 3 && month >= 0 && month <= 23 && bush >= 0 && bush <= 9;
    }

    int event(int kind, int month, int bush) {
        if (!mayBe(kind, month, bush)) {
            return -2;
        }
        if (events.size() == 8) {
            return -4;
        }
        events.add(new Event(kind, month, bush));
        return events.size();
    }

    int back() {
        if (events.isEmpty()) {
            return -3;
        }
        events.remove(events.size() - 1);
        return events.size();
    }

    int read(int s) {
        if (s < 0 || s > 3) {
            return -2;
        }
        if (sheets[s] == null) {
            return finding(1);
        }
        int brought = 0;
        for (int e = 0; e < lengthOf(s) / 3; e++) {
            int kind = itemOf(s, 3 * e);
            int month = itemOf(s, 3 * e + 1);
            int bush = itemOf(s, 3 * e + 2);
            if (event(kind, month, bush) < 0) {
                break;
            }
            brought++;
        }
        return brought;
    }

    // ---- months

    private static boolean inSeason(Bush b, int month) {
        int lasts = new int[] {6, 4, 3}[b.kind];
        for (int i = 0; i < lasts; i++) {
            if ((b.begin + i) % 12 == month % 12) {
                return true;
            }
        }
        return false;
    }

    private static boolean held(int eventKind, Bush b, int index, int month, List<Event> by) {
        for (Event e : by) {
            if (e.kind != eventKind || (e.kind != 2 && e.bush != index)) {
                continue;
            }
            int lasts;
            if (eventKind == 0) {
                lasts = b.kind == 0 ? 9 : 12;
            } else if (eventKind == 1) {
                lasts = b.kind == 2 ? 3 : 2;
            } else if (eventKind == 2) {
                lasts = b.kind == 2 ? 0 : b.kind == 1 ? 2 : 1;
            } else {
                lasts = 3;
            }
            if (month >= e.month && month < e.month + lasts) {
                return true;
            }
        }
        return false;
    }

    private static int is(Bush b, int index, int month, List<Event> by) {
        if (held(0, b, index, month, by)) {
            return 2;
        }
        if (held(1, b, index, month, by)) {
            return 3;
        }
        if (held(2, b, index, month, by)) {
            return 4;
        }
        return inSeason(b, month) ? 1 : 0;
    }

    private static boolean seems(Bush b, int index, int month, List<Event> by) {
        return is(b, index, month, by) == 1 || held(3, b, index, month, by);
    }

    private static int yellow(List<Bush> bushes, int month, List<Event> by) {
        int sum = 0;
        for (int i = 0; i < bushes.size(); i++) {
            sum += is(bushes.get(i), i, month, by) == 1 ? bushes.get(i).sparks : 0;
        }
        return sum;
    }

    int at(int month, int bush, int what) {
        if (month < 0 || month > 23 || bush < 0 || bush >= bushes().size() || what < 0 || what > 2) {
            return -2;
        }
        Bush b = bushes().get(bush);
        if (what == 0) {
            return is(b, bush, month, events);
        }
        boolean so = what == 1 ? seems(b, bush, month, events) : held(3, b, bush, month, events);
        return so ? 1 : 0;
    }

    private static int bound(int v) {
        return v < 0 ? 0 : v > 100 ? 100 : v;
    }

    private int[] belief(List<Look> looks, List<Event> by) {
        List<Bush> bushes = bushes();
        int[] behind = new int[24];
        int now = faith;
        for (int month = 0; month < 24; month++) {
            for (Event e : by) {
                if (e.kind == 0 && e.month == month && e.bush < bushes.size()) {
                    now = bound(now - 10);
                }
            }
            boolean any = false;
            for (Look l : looks) {
                if (l.month == month && l.bush < bushes.size()) {
                    any = true;
                    Bush b = bushes.get(l.bush);
                    now = bound(seems(b, l.bush, month, by) ? now + b.sparks : now - 5);
                }
            }
            if (!any) {
                now = bound(now - 2);
            }
            behind[month] = now;
        }
        return behind;
    }

    private int runOf(int[] belief) {
        for (int month = 0; month < 24; month++) {
            if (belief[month] < doubt) {
                return month;
            }
        }
        return -1;
    }

    int hill(int month, int what) {
        if (month < 0 || month > 23 || what < 0 || what > 2) {
            return -2;
        }
        if (what == 0) {
            return yellow(bushes(), month, events);
        }
        if (what == 1) {
            return belief(looks(), events)[month];
        }
        int sum = 0;
        for (int i = 0; i < bushes().size(); i++) {
            sum += seems(bushes().get(i), i, month, events) ? bushes().get(i).sparks : 0;
        }
        return sum;
    }

    private int bareBy(List<Event> by) {
        int bits = 0;
        for (int month = 0; month < 24; month++) {
            bits |= yellow(bushes(), month, by) == 0 ? 1 << month : 0;
        }
        return bits;
    }

    int bare() {
        return bareBy(events);
    }

    int run() {
        return runOf(belief(looks(), events));
    }

    int fake() {
        int bits = 0;
        List<Look> looks = looks();
        for (int i = 0; i < looks.size(); i++) {
            Look l = looks.get(i);
            if (l.bush < bushes().size()) {
                Bush b = bushes().get(l.bush);
                boolean so = seems(b, l.bush, l.month, events) && is(b, l.bush, l.month, events) != 1;
                bits |= so ? 1 << i : 0;
            }
        }
        return bits;
    }

    int last(int what) {
        if (what < 0 || what > 1) {
            return -2;
        }
        int which = -1;
        int most = -1;
        for (int i = 0; i < bushes().size(); i++) {
            int months = 0;
            for (int month = 0; month < 24; month++) {
                months += is(bushes().get(i), i, month, events) == 1 ? 1 : 0;
            }
            if (months > most) {
                which = i;
                most = months;
            }
        }
        return what == 0 ? which : most;
    }

    // ---- plans

    int plant(int what) {
        if (what < 0 || what > 2) {
            return -2;
        }
        List<Event> frosts = new ArrayList<>();
        for (Event e : events) {
            if (e.kind == 2) {
                frosts.add(e);
            }
        }
        int[] best = {0, 0, 99};
        for (int kind = 0; kind < 3; kind++) {
            for (int begin = 0; begin < 12; begin++) {
                int left = 0;
                for (int month = 0; month < 24; month++) {
                    boolean yellow = yellow(bushes(), month, events) > 0
                        || is(new Bush(kind, begin, 1), 99, month, frosts) == 1;
                    left += yellow ? 0 : 1;
                }
                if (left < best[2]) {
                    best = new int[] {kind, begin, left};
                }
            }
        }
        return best[what];
    }

    int send(int what) {
        if (what < 0 || what > 2) {
            return -2;
        }
        int[] best = {-1, -1, -1};
        int latestRun = -1;
        for (int month = 0; month < 24; month++) {
            for (int bush = 0; bush < bushes().size(); bush++) {
                List<Look> looks = looks();
                looks.add(new Look(month, bush));
                int run = runOf(belief(looks, events));
                int late = run == -1 ? 24 : run;
                if (late > latestRun) {
                    latestRun = late;
                    best = new int[] {month, bush, run};
                }
            }
        }
        return best[what];
    }

    private List<Event> without(int... lost) {
        List<Event> left = new ArrayList<>();
        for (int i = 0; i < events.size(); i++) {
            boolean stays = true;
            for (int l : lost) {
                stays &= l != i;
            }
            if (stays) {
                left.add(events.get(i));
            }
        }
        return left;
    }

    private int[] saved() {
        if (bareBy(events) == 0) {
            return new int[0];
        }
        for (int i = 0; i < events.size(); i++) {
            if (bareBy(without(i)) == 0) {
                return new int[] {i};
            }
        }
        for (int i = 0; i < events.size(); i++) {
            for (int j = i + 1; j < events.size(); j++) {
                if (bareBy(without(i, j)) == 0) {
                    return new int[] {i, j};
                }
            }
        }
        return null;
    }

    int save(int i) {
        if (i < -1 || i > 1) {
            return -2;
        }
        int[] saved = saved();
        if (saved == null) {
            return -1;
        }
        if (i == -1) {
            return saved.length;
        }
        return i < saved.length ? saved[i] : -1;
    }

    int deal(int what) {
        if (what < 0 || what > 2) {
            return -2;
        }
        int[] belief = belief(looks(), events);
        int[] best = {-1, -1, -1};
        for (int buy = 0; buy < 24; buy++) {
            for (int sell = buy; sell < 24; sell++) {
                if (belief[sell] - belief[buy] > best[2]) {
                    best = new int[] {buy, sell, belief[sell] - belief[buy]};
                }
            }
        }
        return best[what];
    }

    // ---- seen, luck, centuries

    int seen(int month, int bush, int is) {
        if (month < 0 || month > 23 || bush < 0 || bush > 9 || is < 0 || is > 4) {
            return -2;
        }
        if (sights.size() == 8) {
            return -4;
        }
        sights.add(new Sight(month, bush, is));
        return sights.size();
    }

    int forget() {
        int had = sights.size();
        sights.clear();
        return had;
    }

    private boolean comesOut(List<Bush> bushes, List<Event> by) {
        for (Sight s : sights) {
            if (s.bush >= bushes.size() || is(bushes.get(s.bush), s.bush, s.month, by) != s.is) {
                return false;
            }
        }
        return true;
    }

    int never() {
        int bits = 0;
        for (int i = 0; i < events.size(); i++) {
            bits |= comesOut(bushes(), without(i)) ? 1 << i : 0;
        }
        return bits;
    }

    int was(int bush, int what) {
        if (bush < 0 || bush >= bushes().size() || what < 0 || what > 1) {
            return -2;
        }
        int bits = 0;
        for (int v = 0; v < (what == 0 ? 12 : 3); v++) {
            List<Bush> bushes = bushes();
            Bush b = bushes.get(bush);
            bushes.set(bush, what == 0 ? new Bush(b.kind, v, b.sparks) : new Bush(v, b.begin, b.sparks));
            bits |= comesOut(bushes, events) ? 1 << v : 0;
        }
        return bits;
    }

    int ask(int bush) {
        if (bush < 0 || bush >= bushes().size()) {
            return -2;
        }
        int began = was(bush, 0);
        int kind = bushes().get(bush).kind;
        int best = -1;
        int least = 99;
        for (int month = 0; month < 24; month++) {
            Map<Integer, Integer> alike = new HashMap<>();
            int greatest = 0;
            for (int begin = 0; begin < 12; begin++) {
                if ((began >> begin & 1) == 1) {
                    int state = is(new Bush(kind, begin, 1), bush, month, events);
                    greatest = Math.max(greatest, alike.merge(state, 1, Integer::sum));
                }
            }
            if (greatest < least) {
                least = greatest;
                best = month;
            }
        }
        return best;
    }

    long luck(int c, int month, int what) {
        if (c < 0 || c > 16 || month < 0 || month > 23 || what < 0 || what > 1) {
            return Long.MIN_VALUE + 2;
        }
        BigInteger above = BigInteger.ZERO;
        BigInteger below = BigInteger.valueOf(16).pow(events.size());
        for (int set = 0; set < 1 << events.size(); set++) {
            List<Event> by = new ArrayList<>();
            BigInteger chance = BigInteger.ONE;
            for (int i = 0; i < events.size(); i++) {
                boolean so = (set >> i & 1) == 1;
                chance = chance.multiply(BigInteger.valueOf(so ? c : 16 - c));
                if (so) {
                    by.add(events.get(i));
                }
            }
            if (yellow(bushes(), month, by) == 0) {
                above = above.add(chance);
            }
        }
        BigInteger common = above.gcd(below);
        return (what == 0 ? above : below).divide(common).longValueExact();
    }

    int century(int seed, int n, int what) {
        if (n < 0 || n > 8 || what < 0 || what > 1) {
            return -2;
        }
        List<Event> drawn = new ArrayList<>();
        int[] lots = {seed};
        int there = bushes().size();
        for (int i = 0; i < n && there > 0; i++) {
            int kind = lot(lots, 4);
            int month = lot(lots, 24);
            int bush = lot(lots, there);
            drawn.add(new Event(kind, month, bush));
        }
        return what == 0 ? Integer.bitCount(bareBy(drawn)) : runOf(belief(looks(), drawn));
    }

    private static int lot(int[] seed, int m) {
        seed[0] = (int) (1103515245L * seed[0] + 12345L);
        return (seed[0] >> 16 & 0xFFFF) % m;
    }

    // ---- sheets

    private int finding(int number) {
        latest = number;
        return -10 - number;
    }

    private int lengthOf(int s) {
        return java.lang.reflect.Array.getLength(sheets[s]);
    }

    private int itemOf(int s, int i) {
        return java.lang.reflect.Array.getInt(sheets[s], i);
    }

    private void put(int s, int i, int v) {
        if (sheets[s] instanceof byte[] row) {
            row[i] = (byte) v;
        } else if (sheets[s] instanceof short[] row) {
            row[i] = (short) v;
        } else if (sheets[s] instanceof int[] row) {
            row[i] = v;
        }
    }

    private int formOf(int s) {
        return sheets[s] instanceof byte[] ? 0 : sheets[s] instanceof short[] ? 1 : 2;
    }

    int sheet(int s, int form, int n) {
        if (s < 0 || s > 3 || form < 0 || form > 2 || n > 60) {
            return -2;
        }
        if (n < 0) {
            return finding(5);
        }
        sheets[s] = form == 0 ? new byte[n] : form == 1 ? (Object) new short[n] : new int[n];
        return n;
    }

    int lose(int s) {
        if (s < 0 || s > 3) {
            return -2;
        }
        if (sheets[s] == null) {
            return finding(1);
        }
        int had = lengthOf(s);
        sheets[s] = null;
        return had;
    }

    private int findingOf(int s, int form, int i) {
        if (sheets[s] == null) {
            return 1;
        }
        if (formOf(s) != form) {
            return 3;
        }
        return i < 0 || i >= lengthOf(s) ? 2 : 0;
    }

    int lay(int s, int form, int i, int v) {
        if (s < 0 || s > 3 || form < 0 || form > 2) {
            return -2;
        }
        int found = findingOf(s, form, i);
        if (found != 0) {
            return finding(found);
        }
        put(s, i, v);
        return 1;
    }

    int get(int s, int form, int i) {
        if (s < 0 || s > 3 || form < 0 || form > 2) {
            return Integer.MIN_VALUE;
        }
        int found = findingOf(s, form, i);
        if (found != 0) {
            finding(found);
            return Integer.MIN_VALUE;
        }
        return itemOf(s, i);
    }

    int copy(int s, int i, int t, int j, int n) {
        if (s < 0 || s > 3 || t < 0 || t > 3) {
            return -2;
        }
        if (sheets[s] == null || sheets[t] == null) {
            return finding(1);
        }
        if (formOf(s) != formOf(t)) {
            return finding(4);
        }
        if (i < 0 || j < 0 || n < 0 || (long) i + n > lengthOf(s) || (long) j + n > lengthOf(t)) {
            return finding(2);
        }
        int[] were = new int[n];
        for (int k = 0; k < n; k++) {
            were[k] = itemOf(s, i + k);
        }
        for (int k = 0; k < n; k++) {
            put(t, j + k, were[k]);
        }
        return 1;
    }

    int write(int s) {
        if (s < 0 || s > 3) {
            return -2;
        }
        if (sheets[s] == null) {
            return finding(1);
        }
        int[] belief = belief(looks(), events);
        int written = 0;
        while (written < 24 && written < lengthOf(s)) {
            put(s, written, belief[written]);
            written++;
        }
        return written;
    }

    int count(int what) {
        int yellow = 0;
        for (int month = 0; month < 24; month++) {
            yellow += yellow(bushes(), month, events);
        }
        int[] counts = {bushes().size(), looks().size(), texts.get(0).size(), texts.get(1).size(),
            events.size(), Integer.bitCount(bare()), yellow, sights.size(), latest};
        return what < 0 || what > 8 ? -2 : counts[what];
    }

    /** All that goes into the digest, in its order. */
    private List<Long> digested() {
        List<Long> all = new ArrayList<>();
        for (int what = 0; what < 8; what++) {
            all.add((long) count(what));
        }
        all.add((long) fault(0));
        all.add((long) fault(1));
        for (int month = 0; month < 24; month++) {
            for (int what = 0; what < 3; what++) {
                all.add((long) hill(month, what));
            }
        }
        for (int i = 0; i < 12; i++) {
            all.add((long) look(i, 0));
            all.add((long) look(i, 1));
        }
        for (int b = 0; b < bushes().size(); b++) {
            for (int what = 0; what < 3; what++) {
                all.add((long) bush(b, what));
            }
            for (int month : new int[] {0, 6, 13, 23}) {
                for (int what = 0; what < 3; what++) {
                    all.add((long) at(month, b, what));
                }
            }
            all.add((long) was(b, 0));
            all.add((long) was(b, 1));
            all.add((long) ask(b));
        }
        long[] rest = {bare(), run(), fake(), last(0), last(1), plant(0), plant(1), plant(2), send(0), send(1),
            send(2), save(-1), save(0), deal(0), deal(1), deal(2), never(), luck(5, 6, 0), luck(5, 6, 1),
            luck(5, 13, 0), luck(5, 13, 1), century(7, 6, 0), century(7, 6, 1)};
        for (long r : rest) {
            all.add(r);
        }
        return all;
    }

    long digest() {
        long h = 17;
        for (long v : digested()) {
            h = 31 * h + v;
        }
        return h;
    }
}
