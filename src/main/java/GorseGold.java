import java.util.Arrays;

/**
 * The gold reserve of a state that has a hill of gorse in place of metal.
 *
 * <p>A set of MONTHS is kept as the bits 0 to 23 of an int, so that what events do to a bush, what
 * is in bloom and what is bare are single masks. All rows are made with the object and used again:
 * no call makes an object.
 */
public final class GorseGold {
    public static final int NONE = -1, BAD = -2, NOT = -3, FULL = -4;

    private static final int MONTHS = 24;
    private static final int YEAR = 12;
    private static final int ALL_MONTHS = (1 << MONTHS) - 1;
    private static final int WHOLE_YEAR = (1 << YEAR) - 1;

    private static final int MOST_BUSHES = 10;
    private static final int MOST_LOOKS = 12;
    private static final int MOST_EVENTS = 8;
    private static final int MOST_SEEN = 8;
    private static final int SHEETS = 4;
    private static final int MOST_ITEMS = 60;

    private static final int BUSH_ROOM = 39;
    private static final int LOOK_ROOM = 35;
    private static final int[] BUSH_LOWS = {'c', 'a', '1'};
    private static final int[] BUSH_HIGHS = {'e', 'l', '9'};
    private static final int[] LOOK_LOWS = {'a', '0'};
    private static final int[] LOOK_HIGHS = {'x', '9'};

    private static final int KINDS = 3;
    /** The document counts c, e, d; the signs themselves stand in the order c, d, e. */
    private static final int[] KIND_OF_SIGN = {0, 2, 1};
    private static final int[] SEASON_OF_KIND = {6, 4, 3};

    private static final int FIRE = 0;
    private static final int GOAT = 1;
    private static final int FROST = 2;
    private static final int PAINT = 3;
    private static final int EVENT_KINDS = 4;
    /** For how many MONTHS an event lasts: a row for each kind of event, by the kind of the bush. */
    private static final int[] LASTING = {9, 12, 12, 2, 2, 3, 1, 2, 0, 3, 3, 3};

    private static final int GREEN = 0;
    private static final int BLOOM = 1;
    private static final int BURNT = 2;
    private static final int STATES = 5;

    private static final int FORMS = 3;
    private static final int BYTES = 0;
    private static final int SHORTS = 1;

    private static final int FINDING_NULL = 1;
    private static final int FINDING_INDEX = 2;
    private static final int FINDING_CAST = 3;
    private static final int FINDING_STORE = 4;
    private static final int FINDING_SIZE = 5;

    private static final int LEAST_INT = 1 << 31;
    private static final long LEAST_LONG = 1L << 63;

    private final Market market;
    private final Hill hill;
    private final Bushes bushes;
    private final Looks looks;
    private final Events events;
    private final Events drawn;
    private final Course lone;
    private final Seen sights;
    private final Lots lots;
    private final Sheet[] sheets;
    private final int[] hinderers;
    private final int[] alike;
    private int latestFinding;

    public GorseGold() {
        market = new Market();
        hill = market.hill;
        bushes = hill.bushes;
        looks = market.looks;
        events = new Events();
        drawn = new Events();
        lone = new Course();
        sights = new Seen();
        lots = new Lots();
        sheets = new Sheet[SHEETS];
        for (int s = 0; s < SHEETS; s++) {
            sheets[s] = new Sheet();
        }
        hinderers = new int[MOST_BUSHES];
        alike = new int[STATES];
        latestFinding = 0;
    }

    // ---- bushes, looks, events

    public int type(int text, int b) {
        if (!isText(text) || !within(b, 0, 255)) {
            return BAD;
        }
        return textOf(text).put(b);
    }

    public int wipe(int text) {
        return isText(text) ? textOf(text).clear() : BAD;
    }

    public int undo(int text) {
        return isText(text) ? textOf(text).drop() : BAD;
    }

    public int fault(int text) {
        return isText(text) ? textOf(text).faultPlace : BAD;
    }

    public int bush(int bush, int what) {
        if (!bushes.has(bush)) {
            return BAD;
        }
        switch (what) {
            case 0:
                return bushes.kindOf(bush);
            case 1:
                return bushes.beginOf(bush);
            case 2:
                return bushes.sparksOf(bush);
            default:
                return BAD;
        }
    }

    public int look(int i, int what) {
        if (!within(i, 0, MOST_LOOKS - 1) || !within(what, 0, 1)) {
            return BAD;
        }
        if (i >= looks.size()) {
            return NONE;
        }
        return what == 0 ? looks.monthOf(i) : looks.bushOf(i);
    }

    public int set(int what, int v) {
        if (what == 0 && within(v, 0, 100)) {
            int was = market.faith;
            market.faith = v;
            return was;
        }
        if (what == 1 && within(v, 0, 50)) {
            int was = market.doubt;
            market.doubt = v;
            return was;
        }
        return BAD;
    }

    public int event(int kind, int month, int bush) {
        return mayBeEvent(kind, month, bush) ? events.add(kind, month, bush) : BAD;
    }

    public int back() {
        return events.dropLast();
    }

    public int read(int s) {
        if (!isSheet(s)) {
            return BAD;
        }
        Sheet sheet = sheets[s];
        if (sheet.isLost()) {
            return finding(FINDING_NULL);
        }
        int before = events.size;
        for (int i = 0; i + 2 < sheet.size && events.size < MOST_EVENTS; i += 3) {
            int kind = sheet.item(i);
            int month = sheet.item(i + 1);
            int bush = sheet.item(i + 2);
            if (!mayBeEvent(kind, month, bush)) {
                break;
            }
            events.add(kind, month, bush);
        }
        return events.size - before;
    }

    // ---- months

    public int at(int month, int bush, int what) {
        if (!isMonth(month) || !bushes.has(bush) || !within(what, 0, 2)) {
            return BAD;
        }
        lone.follow(events, 0, bush, bushes.kindOf(bush), bushes.beginOf(bush));
        if (what == 0) {
            return lone.stateIn(month);
        }
        return bit(what == 1 ? lone.seeming : lone.held[PAINT], month);
    }

    public int hill(int month, int what) {
        if (!isMonth(month) || !within(what, 0, 2)) {
            return BAD;
        }
        if (what == 1) {
            market.reckon(events);
            return market.belief[month];
        }
        hill.grow(events, 0);
        return what == 0 ? hill.yellowIn(month) : hill.seemingIn(month);
    }

    public int bare() {
        return hill.grow(events, 0);
    }

    public int run() {
        market.reckon(events);
        return market.runMonth;
    }

    public int fake() {
        hill.grow(events, 0);
        int fakes = 0;
        for (int i = 0; i < looks.size(); i++) {
            int bush = looks.bushOf(i);
            if (bushes.has(bush)) {
                Course course = hill.courses[bush];
                fakes |= bit(course.seeming & ~course.blooming, looks.monthOf(i)) << i;
            }
        }
        return fakes;
    }

    public int last(int what) {
        if (!within(what, 0, 1)) {
            return BAD;
        }
        hill.grow(events, 0);
        int which = NONE;
        int most = NONE;
        for (int bush = 0; bush < bushes.size(); bush++) {
            int months = Integer.bitCount(hill.courses[bush].blooming);
            if (months > most) {
                which = bush;
                most = months;
            }
        }
        return what == 0 ? which : most;
    }

    // ---- plans

    public int plant(int what) {
        if (!within(what, 0, 2)) {
            return BAD;
        }
        int bare = hill.grow(events, 0);
        int best = 0;
        int fewest = MONTHS + 1;
        for (int choice = 0; choice < KINDS * YEAR; choice++) {
            int left = bareIfPlanted(bare, choice / YEAR, choice % YEAR);
            if (left < fewest) {
                best = choice;
                fewest = left;
            }
        }
        if (what == 2) {
            return fewest;
        }
        return what == 0 ? best / YEAR : best % YEAR;
    }

    public int send(int what) {
        if (!within(what, 0, 2)) {
            return BAD;
        }
        if (bushes.size() == 0) {
            return NONE;
        }
        market.reckon(events);
        int best = bestSend();
        int month = best / MOST_BUSHES;
        int bush = best % MOST_BUSHES;
        if (what == 2) {
            return market.runWith(month, bush);
        }
        return what == 0 ? month : bush;
    }

    public int save(int i) {
        if (!within(i, NONE, 1)) {
            return BAD;
        }
        int lost = fewestToLose();
        if (lost == NONE) {
            return NONE;
        }
        if (i == NONE) {
            return Integer.bitCount(lost);
        }
        return placeOfBit(lost, i);
    }

    public int deal(int what) {
        if (!within(what, 0, 2)) {
            return BAD;
        }
        market.reckon(events);
        int best = bestDeal();
        int buy = best / MONTHS;
        int sell = best % MONTHS;
        if (what == 2) {
            return market.belief[sell] - market.belief[buy];
        }
        return what == 0 ? buy : sell;
    }

    // ---- seen, luck, centuries

    public int seen(int month, int bush, int is) {
        if (!isMonth(month) || !within(bush, 0, MOST_BUSHES - 1) || !within(is, 0, STATES - 1)) {
            return BAD;
        }
        return sights.add(month, bush, is);
    }

    public int forget() {
        return sights.clear();
    }

    public int never() {
        int nevers = 0;
        for (int i = 0; i < events.size; i++) {
            hill.grow(events, 1 << i);
            if (sights.comeOut(hill)) {
                nevers |= 1 << i;
            }
        }
        return nevers;
    }

    public int was(int bush, int what) {
        if (!bushes.has(bush) || !within(what, 0, 1)) {
            return BAD;
        }
        hill.grow(events, 0);
        return what == 0 ? beginsThatFit(bush) : kindsThatFit(bush);
    }

    public int ask(int bush) {
        if (!bushes.has(bush)) {
            return BAD;
        }
        hill.grow(events, 0);
        int begins = beginsThatFit(bush);
        int best = 0;
        int least = YEAR + 1;
        for (int month = 0; month < MONTHS; month++) {
            int greatest = greatestAlike(bush, begins, month);
            if (greatest < least) {
                best = month;
                least = greatest;
            }
        }
        return best;
    }

    public long luck(int c, int month, int what) {
        if (!within(c, 0, 16) || !isMonth(month) || !within(what, 0, 1)) {
            return LEAST_LONG - BAD;
        }
        hill.grow(events, 0);
        long above = bareShares(c, month);
        if (above == 0) {
            // 0 by 1: above is asked for by 0, below by 1
            return what;
        }
        long below = 1L << 4 * events.size;
        // below is a power of two, so halving is all the shortening there is
        for (int i = 0; i < 4 * MOST_EVENTS && ((above | below) & 1) == 0; i++) {
            above >>= 1;
            below >>= 1;
        }
        return what == 0 ? above : below;
    }

    public int century(int seed, int n, int what) {
        if (!within(n, 0, MOST_EVENTS) || !within(what, 0, 1)) {
            return BAD;
        }
        drawEvents(seed, n);
        if (what == 0) {
            return Integer.bitCount(hill.grow(drawn, 0));
        }
        market.reckon(drawn);
        return market.runMonth;
    }

    // ---- sheets

    public int sheet(int s, int form, int n) {
        if (!isSheet(s) || !isForm(form) || n > MOST_ITEMS) {
            return BAD;
        }
        if (n < 0) {
            return finding(FINDING_SIZE);
        }
        sheets[s].renew(form, n);
        return n;
    }

    public int lose(int s) {
        if (!isSheet(s)) {
            return BAD;
        }
        if (sheets[s].isLost()) {
            return finding(FINDING_NULL);
        }
        return sheets[s].discard();
    }

    public int lay(int s, int form, int i, int v) {
        if (!isSheet(s) || !isForm(form)) {
            return BAD;
        }
        int found = findingOfItem(sheets[s], form, i);
        if (found != 0) {
            return finding(found);
        }
        sheets[s].put(i, v);
        return 1;
    }

    public int get(int s, int form, int i) {
        if (!isSheet(s) || !isForm(form)) {
            return LEAST_INT;
        }
        int found = findingOfItem(sheets[s], form, i);
        if (found != 0) {
            latestFinding = found;
            return LEAST_INT;
        }
        return sheets[s].item(i);
    }

    public int copy(int s, int i, int t, int j, int n) {
        if (!isSheet(s) || !isSheet(t)) {
            return BAD;
        }
        Sheet from = sheets[s];
        Sheet to = sheets[t];
        if (from.isLost() || to.isLost()) {
            return finding(FINDING_NULL);
        }
        if (from.form != to.form) {
            return finding(FINDING_STORE);
        }
        if (!from.hasItems(i, n) || !to.hasItems(j, n)) {
            return finding(FINDING_INDEX);
        }
        System.arraycopy(from.items, i, to.items, j, n);
        return 1;
    }

    public int write(int s) {
        if (!isSheet(s)) {
            return BAD;
        }
        Sheet sheet = sheets[s];
        if (sheet.isLost()) {
            return finding(FINDING_NULL);
        }
        market.reckon(events);
        int written = Math.min(sheet.size, MONTHS);
        for (int month = 0; month < written; month++) {
            sheet.put(month, market.belief[month]);
        }
        return written;
    }

    public int count(int what) {
        switch (what) {
            case 0:
                return bushes.size();
            case 1:
                return looks.size();
            case 2:
                return bushes.text.length;
            case 3:
                return looks.text.length;
            case 4:
                return events.size;
            case 5:
                return Integer.bitCount(bare());
            case 6:
                return allYellow();
            case 7:
                return sights.size;
            case 8:
                return latestFinding;
            default:
                return BAD;
        }
    }

    public long digest() {
        long h = digestOfCounts(17);
        h = digestOfMonths(h);
        h = digestOfLooks(h);
        for (int bush = 0; bush < bushes.size(); bush++) {
            h = digestOfBush(h, bush);
        }
        h = digestOfHill(h);
        h = digestOfPlans(h);
        return digestOfLuck(h);
    }

    private long digestOfCounts(long h) {
        for (int what = 0; what <= 7; what++) {
            h = 31 * h + count(what);
        }
        h = 31 * h + fault(0);
        return 31 * h + fault(1);
    }

    private long digestOfMonths(long h) {
        for (int month = 0; month < MONTHS; month++) {
            for (int what = 0; what <= 2; what++) {
                h = 31 * h + hill(month, what);
            }
        }
        return h;
    }

    private long digestOfLooks(long h) {
        for (int i = 0; i < MOST_LOOKS; i++) {
            h = 31 * h + look(i, 0);
            h = 31 * h + look(i, 1);
        }
        return h;
    }

    private long digestOfBush(long h, int bush) {
        for (int what = 0; what <= 2; what++) {
            h = 31 * h + bush(bush, what);
        }
        h = digestOfBushIn(h, bush, 0);
        h = digestOfBushIn(h, bush, 6);
        h = digestOfBushIn(h, bush, 13);
        h = digestOfBushIn(h, bush, 23);
        h = 31 * h + was(bush, 0);
        h = 31 * h + was(bush, 1);
        return 31 * h + ask(bush);
    }

    private long digestOfBushIn(long h, int bush, int month) {
        for (int what = 0; what <= 2; what++) {
            h = 31 * h + at(month, bush, what);
        }
        return h;
    }

    private long digestOfHill(long h) {
        h = 31 * h + bare();
        h = 31 * h + run();
        h = 31 * h + fake();
        h = 31 * h + last(0);
        return 31 * h + last(1);
    }

    private long digestOfPlans(long h) {
        for (int what = 0; what <= 2; what++) {
            h = 31 * h + plant(what);
        }
        for (int what = 0; what <= 2; what++) {
            h = 31 * h + send(what);
        }
        h = 31 * h + save(NONE);
        h = 31 * h + save(0);
        for (int what = 0; what <= 2; what++) {
            h = 31 * h + deal(what);
        }
        return h;
    }

    private long digestOfLuck(long h) {
        h = 31 * h + never();
        h = 31 * h + luck(5, 6, 0);
        h = 31 * h + luck(5, 6, 1);
        h = 31 * h + luck(5, 13, 0);
        h = 31 * h + luck(5, 13, 1);
        h = 31 * h + century(7, 6, 0);
        return 31 * h + century(7, 6, 1);
    }

    private int allYellow() {
        hill.grow(events, 0);
        int yellow = 0;
        for (int month = 0; month < MONTHS; month++) {
            yellow += hill.yellowIn(month);
        }
        return yellow;
    }

    /** The planted bush goes by NONE, which no event names: so only frosts reach it. */
    private int bareIfPlanted(int bare, int kind, int begin) {
        lone.follow(events, 0, NONE, kind, begin);
        return Integer.bitCount(bare & ~lone.blooming);
    }

    /** Month and bush of SEND in one number, for a market that has been reckoned. */
    private int bestSend() {
        int best = 0;
        int latest = NONE;
        for (int month = 0; month < MONTHS; month++) {
            for (int bush = 0; bush < bushes.size(); bush++) {
                int run = market.runWith(month, bush);
                if (run == NONE) {
                    return month * MOST_BUSHES + bush;
                }
                if (run > latest) {
                    best = month * MOST_BUSHES + bush;
                    latest = run;
                }
            }
        }
        return best;
    }

    /** Months to buy and to sell in one number, for a market that has been reckoned. */
    private int bestDeal() {
        int best = 0;
        int most = 0;
        for (int buy = 0; buy < MONTHS; buy++) {
            for (int sell = buy; sell < MONTHS; sell++) {
                int gain = market.belief[sell] - market.belief[buy];
                if (gain > most) {
                    best = buy * MONTHS + sell;
                    most = gain;
                }
            }
        }
        return best;
    }

    /** The events of SAVE, as bits; NONE if no two are enough. */
    private int fewestToLose() {
        if (hill.grow(events, 0) == 0) {
            return 0;
        }
        for (int i = 0; i < events.size; i++) {
            if (hill.grow(events, 1 << i) == 0) {
                return 1 << i;
            }
        }
        for (int i = 0; i < events.size; i++) {
            for (int j = i + 1; j < events.size; j++) {
                if (hill.grow(events, 1 << i | 1 << j) == 0) {
                    return 1 << i | 1 << j;
                }
            }
        }
        return NONE;
    }

    /** Where the i-th one (0 on) among the event bits stands; NONE if there are not so many. */
    private static int placeOfBit(int bits, int i) {
        int left = i;
        for (int place = 0; place < MOST_EVENTS; place++) {
            if (bit(bits, place) == 1) {
                if (left == 0) {
                    return place;
                }
                left--;
            }
        }
        return NONE;
    }

    /** BEGAN, on a hill that has been grown; the bush is left as it was. */
    private int beginsThatFit(int bush) {
        int kind = bushes.kindOf(bush);
        Course course = hill.courses[bush];
        int begins = 0;
        for (int begin = 0; begin < YEAR; begin++) {
            course.beginIn(begin, kind);
            if (sights.comeOut(hill)) {
                begins |= 1 << begin;
            }
        }
        course.beginIn(bushes.beginOf(bush), kind);
        return begins;
    }

    /** KIND, on a hill that has been grown. */
    private int kindsThatFit(int bush) {
        int begin = bushes.beginOf(bush);
        int kinds = 0;
        for (int kind = 0; kind < KINDS; kind++) {
            hill.courses[bush].follow(events, 0, bush, kind, begin);
            if (sights.comeOut(hill)) {
                kinds |= 1 << kind;
            }
        }
        return kinds;
    }

    /** How many of the begins a look in a month would at worst leave alike. */
    private int greatestAlike(int bush, int begins, int month) {
        int kind = bushes.kindOf(bush);
        Course course = hill.courses[bush];
        Arrays.fill(alike, 0);
        int greatest = 0;
        for (int begin = 0; begin < YEAR; begin++) {
            if (bit(begins, begin) == 1) {
                course.beginIn(begin, kind);
                int state = course.stateIn(month);
                alike[state]++;
                greatest = Math.max(greatest, alike[state]);
            }
        }
        return greatest;
    }

    /** The chance of a bare month, in parts of 16 to the power of the events, on a grown hill. */
    private long bareShares(int c, int month) {
        int inSeason = gatherHinderers(month);
        long shares = 0;
        for (int set = 0; set < 1 << events.size; set++) {
            if (hindersAll(set, inSeason)) {
                shares += shareOf(c, Integer.bitCount(set));
            }
        }
        return shares;
    }

    /** For each bush in its season: the events, as bits, each of which keeps it from bloom. */
    private int gatherHinderers(int month) {
        int inSeason = 0;
        for (int bush = 0; bush < bushes.size(); bush++) {
            if (bit(hill.courses[bush].season, month) == 1) {
                hinderers[inSeason] = events.hindering(bush, bushes.kindOf(bush), month);
                inSeason++;
            }
        }
        return inSeason;
    }

    private boolean hindersAll(int set, int inSeason) {
        for (int i = 0; i < inSeason; i++) {
            if ((hinderers[i] & set) == 0) {
                return false;
            }
        }
        return true;
    }

    private long shareOf(int c, int happened) {
        long share = 1;
        for (int i = 0; i < events.size; i++) {
            share *= i < happened ? c : 16 - c;
        }
        return share;
    }

    private void drawEvents(int seed, int n) {
        drawn.clear();
        lots.seed = seed;
        int bushesThere = bushes.size();
        if (bushesThere == 0) {
            return;
        }
        for (int i = 0; i < n; i++) {
            int kind = lots.draw(EVENT_KINDS);
            int month = lots.draw(MONTHS);
            drawn.add(kind, month, lots.draw(bushesThere));
        }
    }

    /** The number of a finding is kept, for count() 8 to tell. */
    private int finding(int number) {
        latestFinding = number;
        return -10 - number;
    }

    private static int findingOfItem(Sheet sheet, int form, int i) {
        if (sheet.isLost()) {
            return FINDING_NULL;
        }
        if (sheet.form != form) {
            return FINDING_CAST;
        }
        return sheet.hasItems(i, 1) ? 0 : FINDING_INDEX;
    }

    private Text textOf(int text) {
        return text == 0 ? bushes.text : looks.text;
    }

    private static boolean isText(int text) {
        return within(text, 0, 1);
    }

    private static boolean isMonth(int month) {
        return within(month, 0, MONTHS - 1);
    }

    private static boolean isSheet(int s) {
        return within(s, 0, SHEETS - 1);
    }

    private static boolean isForm(int form) {
        return within(form, 0, FORMS - 1);
    }

    private static boolean mayBeEvent(int kind, int month, int bush) {
        return within(kind, 0, EVENT_KINDS - 1) && isMonth(month) && within(bush, 0, MOST_BUSHES - 1);
    }

    private static boolean within(int v, int least, int most) {
        return v >= least && v <= most;
    }

    private static int bit(int bits, int place) {
        return bits >> place & 1;
    }

    /** A text of like items with ; between them; each place of an item has a span of signs. */
    private static final class Text {
        private final int[] bytes;
        private final int[] lows;
        private final int[] highs;
        private final int mostItems;
        private final int step;
        private int length;
        private int faultPlace;
        private int items;

        Text(int room, int mostItems, int[] lows, int[] highs) {
            this.bytes = new int[room];
            this.lows = lows;
            this.highs = highs;
            this.mostItems = mostItems;
            this.step = lows.length + 1;
            this.length = 0;
            this.faultPlace = NONE;
            this.items = 0;
        }

        int put(int b) {
            if (length >= bytes.length) {
                return FULL;
            }
            bytes[length] = b;
            length++;
            parse();
            return length;
        }

        int clear() {
            int had = length;
            length = 0;
            parse();
            return had;
        }

        int drop() {
            if (length == 0) {
                return NOT;
            }
            length--;
            parse();
            return length;
        }

        private void parse() {
            faultPlace = firstFault();
            items = faultPlace == NONE ? (length + 1) / step : 0;
        }

        private int firstFault() {
            for (int i = 0; i < length; i++) {
                if (!mayStand(bytes[i], i / step, i % step)) {
                    return i;
                }
            }
            boolean ended = length == 0 || length % step == step - 1;
            return ended ? NONE : length;
        }

        private boolean mayStand(int b, int item, int place) {
            if (place == lows.length) {
                return b == ';';
            }
            return item < mostItems && b >= lows[place] && b <= highs[place];
        }
    }

    private static final class Bushes {
        private final Text text;

        Bushes() {
            text = new Text(BUSH_ROOM, MOST_BUSHES, BUSH_LOWS, BUSH_HIGHS);
        }

        int size() {
            return text.items;
        }

        boolean has(int bush) {
            return bush >= 0 && bush < text.items;
        }

        int kindOf(int bush) {
            return has(bush) ? KIND_OF_SIGN[text.bytes[4 * bush] - 'c'] : 0;
        }

        int beginOf(int bush) {
            return has(bush) ? text.bytes[4 * bush + 1] - 'a' : 0;
        }

        int sparksOf(int bush) {
            return has(bush) ? text.bytes[4 * bush + 2] - '0' : 0;
        }
    }

    private static final class Looks {
        private final Text text;

        Looks() {
            text = new Text(LOOK_ROOM, MOST_LOOKS, LOOK_LOWS, LOOK_HIGHS);
        }

        int size() {
            return text.items;
        }

        boolean has(int i) {
            return i >= 0 && i < text.items;
        }

        int monthOf(int i) {
            return has(i) ? text.bytes[3 * i] - 'a' : 0;
        }

        int bushOf(int i) {
            return has(i) ? text.bytes[3 * i + 1] - '0' : NONE;
        }
    }

    private static final class Events {
        private final int[] kinds;
        private final int[] months;
        private final int[] bushes;
        private int size;

        Events() {
            kinds = new int[MOST_EVENTS];
            months = new int[MOST_EVENTS];
            bushes = new int[MOST_EVENTS];
            size = 0;
        }

        int add(int kind, int month, int bush) {
            if (size >= MOST_EVENTS) {
                return FULL;
            }
            kinds[size] = kind;
            months[size] = month;
            bushes[size] = bush;
            size++;
            return size;
        }

        int dropLast() {
            if (size == 0) {
                return NOT;
            }
            size--;
            return size;
        }

        void clear() {
            size = 0;
        }

        /** In which months, as bits, the i-th makes a bush of a kind burnt, eaten, black, painted. */
        int holding(int i, int bush, int bushKind) {
            if (kinds[i] != FROST && bushes[i] != bush) {
                return 0;
            }
            int lasting = LASTING[kinds[i] * KINDS + bushKind];
            return ((1 << lasting) - 1) << months[i] & ALL_MONTHS;
        }

        /** Which events, as bits, keep a bush from bloom in a month, each by itself. */
        int hindering(int bush, int bushKind, int month) {
            int hindering = 0;
            for (int i = 0; i < size; i++) {
                if (kinds[i] != PAINT) {
                    hindering |= bit(holding(i, bush, bushKind), month) << i;
                }
            }
            return hindering;
        }
    }

    /** What becomes of one bush in all months, by some events. */
    private static final class Course {
        /** Months, as bits, for each kind of event. */
        private final int[] held;
        private int season;
        private int blooming;
        private int seeming;

        Course() {
            held = new int[EVENT_KINDS];
            season = 0;
            blooming = 0;
            seeming = 0;
        }

        /** As if those events whose bits are set in without had not been. */
        void follow(Events events, int without, int bush, int kind, int begin) {
            Arrays.fill(held, 0);
            for (int i = 0; i < events.size; i++) {
                if (bit(without, i) == 0) {
                    held[events.kinds[i]] |= events.holding(i, bush, kind);
                }
            }
            beginIn(begin, kind);
        }

        void beginIn(int begin, int kind) {
            int from = ((1 << SEASON_OF_KIND[kind]) - 1) << begin;
            int ofYear = (from | from >> YEAR) & WHOLE_YEAR;
            season = ofYear | ofYear << YEAR;
            blooming = season & ~(held[FIRE] | held[GOAT] | held[FROST]);
            seeming = blooming | held[PAINT];
        }

        int stateIn(int month) {
            // the states BURNT, EATEN, BLACK are numbered as the events that make them, and in
            // the order in which one of them hides the next
            for (int kind = FIRE; kind <= FROST; kind++) {
                if (bit(held[kind], month) == 1) {
                    return BURNT + kind;
                }
            }
            return bit(season, month) == 1 ? BLOOM : GREEN;
        }
    }

    /** All bushes in all months, as it was grown last. */
    private static final class Hill {
        private final Bushes bushes;
        private final Course[] courses;

        Hill() {
            bushes = new Bushes();
            courses = new Course[MOST_BUSHES];
            for (int bush = 0; bush < MOST_BUSHES; bush++) {
                courses[bush] = new Course();
            }
        }

        /** Grown by events, as if those of without had not been: the BARE MONTHS, as bits. */
        int grow(Events events, int without) {
            int yellow = 0;
            for (int bush = 0; bush < bushes.size(); bush++) {
                Course course = courses[bush];
                course.follow(events, without, bush, bushes.kindOf(bush), bushes.beginOf(bush));
                yellow |= course.blooming;
            }
            return ALL_MONTHS & ~yellow;
        }

        int yellowIn(int month) {
            int sparks = 0;
            for (int bush = 0; bush < bushes.size(); bush++) {
                sparks += bit(courses[bush].blooming, month) * bushes.sparksOf(bush);
            }
            return sparks;
        }

        int seemingIn(int month) {
            int sparks = 0;
            for (int bush = 0; bush < bushes.size(); bush++) {
                sparks += bit(courses[bush].seeming, month) * bushes.sparksOf(bush);
            }
            return sparks;
        }
    }

    /** How much the notes are believed. */
    private static final class Market {
        private final Hill hill;
        private final Looks looks;
        private final int[] fires;
        private final int[] lookMonths;
        private final int[] lookWorths;
        private final int[] belief;
        private int looksThatCount;
        private int runMonth;
        private int faith;
        private int doubt;

        Market() {
            hill = new Hill();
            looks = new Looks();
            fires = new int[MONTHS];
            lookMonths = new int[MOST_LOOKS];
            lookWorths = new int[MOST_LOOKS];
            belief = new int[MONTHS];
            looksThatCount = 0;
            runMonth = NONE;
            faith = 50;
            doubt = 20;
        }

        /** Grows the hill by these events, and reckons belief and run by it. */
        void reckon(Events events) {
            hill.grow(events, 0);
            countFires(events);
            gatherLooks();
            runMonth = NONE;
            int now = faith;
            for (int month = 0; month < MONTHS; month++) {
                now = behind(month, now, 0);
                belief[month] = now;
                if (runMonth == NONE && now < doubt) {
                    runMonth = month;
                }
            }
        }

        /** The month of a run, with one look more behind those told, once it has been reckoned. */
        int runWith(int month, int bush) {
            if (runMonth != NONE && runMonth < month) {
                return runMonth;
            }
            int now = month > 0 ? belief[month - 1] : faith;
            int more = worthOf(month, bush);
            for (int m = month; m < MONTHS; m++) {
                now = behind(m, now, m == month ? more : 0);
                if (now < doubt) {
                    return m;
                }
            }
            return NONE;
        }

        private void countFires(Events events) {
            Arrays.fill(fires, 0);
            for (int i = 0; i < events.size; i++) {
                if (events.kinds[i] == FIRE && hill.bushes.has(events.bushes[i])) {
                    fires[events.months[i]]++;
                }
            }
        }

        private void gatherLooks() {
            looksThatCount = 0;
            for (int i = 0; i < looks.size(); i++) {
                int month = looks.monthOf(i);
                int bush = looks.bushOf(i);
                if (hill.bushes.has(bush)) {
                    lookMonths[looksThatCount] = month;
                    lookWorths[looksThatCount] = worthOf(month, bush);
                    looksThatCount++;
                }
            }
        }

        private int worthOf(int month, int bush) {
            boolean seems = bit(hill.courses[bush].seeming, month) == 1;
            return seems ? hill.bushes.sparksOf(bush) : -5;
        }

        /** No look is worth 0, so a worth of 0 stands for no look more. */
        private int behind(int month, int before, int more) {
            int now = bounded(before - 10 * fires[month]);
            boolean looked = false;
            for (int i = 0; i < looksThatCount; i++) {
                if (lookMonths[i] == month) {
                    now = bounded(now + lookWorths[i]);
                    looked = true;
                }
            }
            if (more != 0) {
                return bounded(now + more);
            }
            return looked ? now : bounded(now - 2);
        }

        private static int bounded(int belief) {
            return Math.max(0, Math.min(100, belief));
        }
    }

    private static final class Seen {
        private final int[] months;
        private final int[] bushes;
        private final int[] states;
        private int size;

        Seen() {
            months = new int[MOST_SEEN];
            bushes = new int[MOST_SEEN];
            states = new int[MOST_SEEN];
            size = 0;
        }

        int add(int month, int bush, int state) {
            if (size >= MOST_SEEN) {
                return FULL;
            }
            months[size] = month;
            bushes[size] = bush;
            states[size] = state;
            size++;
            return size;
        }

        int clear() {
            int had = size;
            size = 0;
            return had;
        }

        boolean comeOut(Hill hill) {
            for (int i = 0; i < size; i++) {
                int bush = bushes[i];
                if (!hill.bushes.has(bush) || hill.courses[bush].stateIn(months[i]) != states[i]) {
                    return false;
                }
            }
            return true;
        }
    }

    private static final class Lots {
        private int seed;

        Lots() {
            seed = 0;
        }

        int draw(int m) {
            seed = 1103515245 * seed + 12345;
            return m > 0 ? (seed >>> 16) % m : 0;
        }
    }

    /** Every form lies in ints, narrowed when it is put there. */
    private static final class Sheet {
        private static final int LOST = -1;

        private final int[] items;
        private int form;
        private int size;

        Sheet() {
            items = new int[MOST_ITEMS];
            form = LOST;
            size = 0;
        }

        boolean isLost() {
            return form == LOST;
        }

        void renew(int newForm, int n) {
            form = newForm;
            size = n;
            Arrays.fill(items, 0);
        }

        int discard() {
            int had = size;
            form = LOST;
            size = 0;
            return had;
        }

        /** Without a sum, which could wrap. */
        boolean hasItems(int from, int n) {
            return from >= 0 && n >= 0 && from <= size && n <= size - from;
        }

        int item(int i) {
            return hasItems(i, 1) ? items[i] : 0;
        }

        void put(int i, int v) {
            if (hasItems(i, 1)) {
                items[i] = narrowed(v);
            }
        }

        private int narrowed(int v) {
            if (form == BYTES) {
                return (byte) v;
            }
            return form == SHORTS ? (short) v : v;
        }
    }
}
