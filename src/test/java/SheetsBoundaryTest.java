/** What the document says of the ends of SHEETS, of FINDINGS, and of promises 29 to 34. */
public final class SheetsBoundaryTest extends Boundaries {
    private static final int LEAST = Integer.MIN_VALUE;
    private static final int[] ENDS = {0, 1, -1, 127, 128, 129, 255, 256, -127, -128, -129, -256, 32767, 32768, 65535,
        65536, -32768, -32769, -65536, Integer.MAX_VALUE, LEAST + 1, LEAST};

    public static void main(String[] args) {
        run(SheetsBoundaryTest.class);
    }

    private static int narrowed(int form, int v) {
        return form == 0 ? (byte) v : form == 1 ? (short) v : v;
    }

    /** Sheets 0 and 1 are of ints with 5 and 3 items, 2 is of shorts with 5, 3 is lost. */
    private static GorseGold counted() {
        GorseGold x = new GorseGold();
        x.sheet(0, 2, 5);
        x.sheet(1, 2, 3);
        x.sheet(2, 1, 5);
        for (int i = 0; i < 5; i++) {
            x.lay(0, 2, i, 10 + i);
            x.lay(1, 2, i, 20 + i);
            x.lay(2, 1, i, 30 + i);
        }
        x.sheet(3, 0, -1);
        return x;
    }

    private static void itemsAre(String told, GorseGold x, int s, int form, int... want) {
        for (int i = 0; i < want.length; i++) {
            is(told + ": item " + i, x.get(s, form, i), want[i]);
        }
        is(told + ": items", x.lose(s), want.length);
    }

    private static void finds(String told, Call act, int number) {
        refused(told, SheetsBoundaryTest::counted, act, -10 - number, number);
    }

    /** get() tells its findings by the least int. */
    private static void getFinds(String told, Call act, int number) {
        refused(told, SheetsBoundaryTest::counted, act, LEAST, number);
    }

    // ---- Terms

    @Sentence(under = "Terms", says = "SHEETS 0 .. 3 are LOST (at first) or a row of a FORM: 0 bytes, 1 shorts, 2 ints")
    static void sheetsAre0To3OfForms0To2() {
        for (int s = 0; s < 4; s++) {
            GorseGold x = new GorseGold();
            is("lose(" + s + ") at first", x.lose(s), -11);
            for (int form = 0; form < 3; form++) {
                is("sheet(" + s + ", " + form + ", 1)", x.sheet(s, form, 1), 1);
                for (int v : ENDS) {
                    x.lay(s, form, 0, v);
                    is("item of form " + form + " by " + v, x.get(s, form, 0), narrowed(form, v));
                }
            }
        }
        is("there is no SHEET -1", new GorseGold().sheet(-1, 0, 1), GorseGold.BAD);
        is("there is no SHEET 4", new GorseGold().sheet(4, 0, 1), GorseGold.BAD);
        is("there is no FORM -1", new GorseGold().sheet(0, -1, 1), GorseGold.BAD);
        is("there is no FORM 3", new GorseGold().sheet(0, 3, 1), GorseGold.BAD);
    }

    @Sentence(under = "Terms", says = "SHEETS 0 .. 3 are LOST (at first) or a row of a FORM: 0 bytes, 1 shorts, 2 ints")
    static void sheetsAreApart() {
        GorseGold x = new GorseGold();
        for (int s = 0; s < 4; s++) {
            x.sheet(s, 2, 60);
            x.lay(s, 2, 0, 100 + s);
            x.lay(s, 2, 59, 200 + s);
        }
        x.lose(2);
        for (int s : new int[] {0, 1, 3}) {
            is("item 0 of " + s, x.get(s, 2, 0), 100 + s);
            is("item 59 of " + s, x.get(s, 2, 59), 200 + s);
        }
    }

    @Sentence(under = "Terms", says = "of 0 to 60 items (0 at first)")
    static void sheetsHave0To60Items() {
        for (int form = 0; form < 3; form++) {
            for (int n : new int[] {0, 1, 59, 60}) {
                GorseGold x = new GorseGold();
                is("sheet(0, " + form + ", " + n + ")", x.sheet(0, form, n), n);
                is("behind its last item", x.lay(0, form, n, 1), -12);
                is("its last item", x.lay(0, form, n - 1, 1), n == 0 ? -12 : 1);
                is("lose(0)", x.lose(0), n);
            }
        }
        is("sheet(0, 0, 61)", new GorseGold().sheet(0, 0, 61), GorseGold.BAD);
        is("sheet(0, 0, -1)", new GorseGold().sheet(0, 0, -1), -15);
    }

    @Sentence(under = "Terms", says = "of 0 to 60 items (0 at first)")
    static void itemsAre0AtFirst() {
        for (int form = 0; form < 3; form++) {
            GorseGold x = new GorseGold();
            x.sheet(0, form, 60);
            for (int i = 0; i < 60; i++) {
                is("new item " + i, x.get(0, form, i), 0);
                x.lay(0, form, i, -1);
            }
            x.sheet(0, form, 1);
            is("item 0 of the next row", x.get(0, form, 0), 0);
            x.sheet(0, form, 60);
            for (int i = 0; i < 60; i++) {
                is("item " + i + " of the row behind it", x.get(0, form, i), 0);
            }
            x.lay(0, form, 59, -1);
            x.lose(0);
            x.sheet(0, form, 60);
            is("item 59 of a row behind a lost one", x.get(0, form, 59), 0);
        }
    }

    @Sentence(under = "Terms", says = "FINDINGS (answers -10 less the number; they change nothing but count() 8)")
    static void findingsAnswerMinus10LessTheirNumber() {
        finds("NULL", x -> x.lose(3), 1);
        finds("INDEX", x -> x.lay(0, 2, 5, 1), 2);
        finds("CAST", x -> x.lay(0, 1, 0, 1), 3);
        finds("STORE", x -> x.copy(0, 0, 2, 0, 1), 4);
        refused("SIZE", () -> Due.gold("ca1", "a0"), x -> x.sheet(0, 0, -1), -15, 5);
    }

    @Sentence(under = "Terms", says = "1 NULL: the SHEET is LOST")
    static void everyCallOfALostSheetIsNull() {
        finds("read(3)", x -> x.read(3), 1);
        finds("lose(3)", x -> x.lose(3), 1);
        finds("lay(3, 0, 0, 1)", x -> x.lay(3, 0, 0, 1), 1);
        getFinds("get(3, 0, 0)", x -> x.get(3, 0, 0), 1);
        finds("copy(3, 0, 0, 0, 0)", x -> x.copy(3, 0, 0, 0, 0), 1);
        finds("copy(0, 0, 3, 0, 0)", x -> x.copy(0, 0, 3, 0, 0), 1);
        finds("copy(3, 0, 3, 0, 0)", x -> x.copy(3, 0, 3, 0, 0), 1);
        finds("write(3)", x -> x.write(3), 1);
        GorseGold x = new GorseGold();
        x.sheet(0, 0, 0);
        is("a row of no items is not LOST", x.write(0), 0);
    }

    @Sentence(under = "Terms", says = "2 INDEX: there is no such item")
    static void anItemThatThereIsNotIsIndex() {
        for (int i : outside(0, 4)) {
            finds("lay(0, 2, " + i + ", 1)", x -> x.lay(0, 2, i, 1), 2);
            getFinds("get(0, 2, " + i + ")", x -> x.get(0, 2, i), 2);
        }
        is("the first item", counted().get(0, 2, 0), 10);
        is("the last item", counted().get(0, 2, 4), 14);
        GorseGold x = new GorseGold();
        x.sheet(0, 0, 0);
        is("item 0 of none", x.lay(0, 0, 0, 1), -12);
    }

    @Sentence(under = "Terms", says = "3 CAST: it has another FORM")
    static void everyOtherFormIsCast() {
        for (int has = 0; has < 3; has++) {
            for (int form = 0; form < 3; form++) {
                GorseGold x = new GorseGold();
                x.sheet(0, has, 1);
                is("lay as " + form + " in " + has, x.lay(0, form, 0, 1), form == has ? 1 : -13);
                is("get as " + form + " in " + has, x.get(0, form, 0), form == has ? 1 : LEAST);
                is("count(8)", x.count(8), form == has ? 0 : 3);
            }
        }
    }

    @Sentence(under = "Terms", says = "4 STORE: unlike FORMS")
    static void everyCopyBetweenUnlikeFormsIsStore() {
        for (int from = 0; from < 3; from++) {
            for (int to = 0; to < 3; to++) {
                GorseGold x = new GorseGold();
                x.sheet(0, from, 2);
                x.sheet(1, to, 2);
                is("from " + from + " to " + to, x.copy(0, 0, 1, 0, 2), from == to ? 1 : -14);
                is("none from " + from + " to " + to, x.copy(0, 0, 1, 0, 0), from == to ? 1 : -14);
                is("count(8)", x.count(8), from == to ? 0 : 4);
            }
        }
    }

    @Sentence(under = "Terms", says = "5 SIZE: below 0.")
    static void everySizeBelow0IsSize() {
        for (int n : new int[] {-1, -2, -60, LEAST}) {
            for (int form = 0; form < 3; form++) {
                is("sheet(0, " + form + ", " + n + ")", new GorseGold().sheet(0, form, n), -15);
            }
        }
        is("0 is a size", new GorseGold().sheet(0, 0, 0), 0);
    }

    // ---- Promise 29

    @Sentence(under = "Promise 29: sheet", says = "A SHEET is a new row of a FORM with n items: n.")
    static void sheetIsANewRowInPlaceOfTheOld() {
        GorseGold x = counted();
        is("sheet(0, 0, 60)", x.sheet(0, 0, 60), 60);
        is("item 0", x.get(0, 0, 0), 0);
        is("item 59", x.get(0, 0, 59), 0);
        is("of the FORM that it had", x.get(0, 2, 0), LEAST);
        is("sheet(0, 1, 0)", x.sheet(0, 1, 0), 0);
        is("lose(0)", x.lose(0), 0);
    }

    @Sentence(under = "Promise 29: sheet", says = "BAD: SHEET, FORM, above 60; SIZE.")
    static void sheetIsBad() {
        for (int s : outside(0, 3)) {
            bad("sheet(" + s + ", 0, 1)", x -> x.sheet(s, 0, 1));
        }
        for (int form : outside(0, 2)) {
            bad("sheet(0, " + form + ", 1)", x -> x.sheet(0, form, 1));
        }
        for (int n : new int[] {61, 62, 100, Integer.MAX_VALUE}) {
            bad("sheet(0, 0, " + n + ")", x -> x.sheet(0, 0, n));
            bad("sheet(3, 0, " + n + "), a lost one", x -> x.sheet(3, 0, n));
        }
    }

    @Sentence(under = "Promise 29: sheet", says = "BAD: SHEET, FORM, above 60; SIZE.")
    static void sheetOfASizeBelow0LeavesTheRow() {
        for (int n : new int[] {-1, -60, LEAST}) {
            refused("sheet(0, 0, " + n + ")", () -> latestIsNull(), x -> x.sheet(0, 0, n), -15, 5);
            refused("sheet(3, 1, " + n + "), a lost one", () -> latestIsNull(), x -> x.sheet(3, 1, n), -15, 5);
        }
    }

    private static GorseGold latestIsNull() {
        GorseGold x = rich();
        x.write(3);
        return x;
    }

    @Sentence(under = "Promise 29: sheet", says = "BAD: SHEET, FORM, above 60; SIZE.")
    static void sheetIsBadAheadOfSize() {
        for (int s : outside(0, 3)) {
            bad("sheet(" + s + ", 0, -1)", x -> x.sheet(s, 0, -1));
        }
        for (int form : outside(0, 2)) {
            bad("sheet(0, " + form + ", -1)", x -> x.sheet(0, form, -1));
        }
    }

    // ---- Promise 30

    @Sentence(under = "Promise 30: lose", says = "It is LOST: how many items it had. BAD; NULL.")
    static void loseOfNoItemsAndOf60() {
        for (int s = 0; s < 4; s++) {
            GorseGold x = new GorseGold();
            x.sheet(s, 1, 60);
            is("lose(" + s + ") of 60", x.lose(s), 60);
            x.sheet(s, 2, 0);
            is("lose(" + s + ") of none", x.lose(s), 0);
            is("count(8)", x.count(8), 0);
            is("lose(" + s + ") once it is LOST", x.lose(s), -11);
        }
    }

    @Sentence(under = "Promise 30: lose", says = "It is LOST: how many items it had. BAD; NULL.")
    static void loseIsBad() {
        for (int s : outside(0, 3)) {
            bad("lose(" + s + ")", x -> x.lose(s));
        }
    }

    @Sentence(under = "Promise 30: lose", says = "It is LOST: how many items it had. BAD; NULL.")
    static void loseOfALostSheetIsNull() {
        refused("lose(3)", Boundaries::rich, x -> x.lose(3), -11, 1);
    }

    // ---- Promise 31

    @Sentence(under = "Promise 31: lay",
        says = "Item i, treated as of a FORM, becomes v (the lowest bits that it has): 1.")
    static void layKeepsTheLowestBits() {
        int[] bytes = {0, 1, -1, 127, -128, -127, -1, 0, -127, -128, 127, 0, -1, 0, -1, 0, 0, -1, 0, -1, 1, 0};
        int[] shorts = {0, 1, -1, 127, 128, 129, 255, 256, -127, -128, -129, -256, 32767, -32768, -1, 0, -32768, 32767,
            0, -1, 1, 0};
        GorseGold x = new GorseGold();
        for (int form = 0; form < 3; form++) {
            x.sheet(form, form, 1);
        }
        for (int k = 0; k < ENDS.length; k++) {
            for (int form = 0; form < 3; form++) {
                int want = form == 0 ? bytes[k] : form == 1 ? shorts[k] : ENDS[k];
                is("lay " + ENDS[k] + " in form " + form, x.lay(form, form, 0, ENDS[k]), 1);
                is("get " + ENDS[k] + " in form " + form, x.get(form, form, 0), want);
            }
        }
    }

    @Sentence(under = "Promise 31: lay",
        says = "Item i, treated as of a FORM, becomes v (the lowest bits that it has): 1.")
    static void layOfTheFirstAndTheLastItemLeavesTheOthers() {
        GorseGold x = counted();
        is("lay(0, 2, 0, 1)", x.lay(0, 2, 0, 1), 1);
        is("lay(0, 2, 4, 2)", x.lay(0, 2, 4, 2), 1);
        itemsAre("sheet 0", x, 0, 2, 1, 11, 12, 13, 2);
        itemsAre("sheet 1", x, 1, 2, 20, 21, 22);
    }

    @Sentence(under = "Promise 31: lay", says = "BAD; NULL; CAST; INDEX.")
    static void layIsBad() {
        for (int s : outside(0, 3)) {
            bad("lay(" + s + ", 0, 0, 1)", x -> x.lay(s, 0, 0, 1));
        }
        for (int form : outside(0, 2)) {
            bad("lay(0, " + form + ", 0, 1)", x -> x.lay(0, form, 0, 1));
            bad("lay(3, " + form + ", 0, 1), BAD ahead of NULL", x -> x.lay(3, form, 0, 1));
        }
    }

    @Sentence(under = "Promise 31: lay", says = "BAD; NULL; CAST; INDEX.")
    static void layIsNullAheadOfCastAheadOfIndex() {
        for (int form = 0; form < 3; form++) {
            int as = form;
            finds("NULL ahead of INDEX, as " + form, x -> x.lay(3, as, 9, 1), 1);
            finds("NULL, as " + form, x -> x.lay(3, as, 0, 1), 1);
        }
        finds("CAST ahead of INDEX", x -> x.lay(0, 0, 9, 1), 3);
        finds("CAST ahead of INDEX below", x -> x.lay(0, 1, -1, 1), 3);
        finds("CAST", x -> x.lay(2, 2, 0, 1), 3);
        for (int i : outside(0, 4)) {
            finds("INDEX " + i, x -> x.lay(2, 1, i, 1), 2);
        }
    }

    // ---- Promise 32

    @Sentence(under = "Promise 32: get", says = "Item i of it.")
    static void getTellsTheFirstAndTheLastItem() {
        GorseGold x = new GorseGold();
        x.sheet(0, 0, 60);
        x.lay(0, 0, 0, -128);
        x.lay(0, 0, 59, 127);
        is("get(0, 0, 0)", x.get(0, 0, 0), -128);
        is("get(0, 0, 59)", x.get(0, 0, 59), 127);
        is("count(8)", x.count(8), 0);
        x.sheet(1, 2, 1);
        x.lay(1, 2, 0, LEAST);
        is("an item that is the least int", x.get(1, 2, 0), LEAST);
        is("is no finding", x.count(8), 0);
    }

    @Sentence(under = "Promise 32: get", says = "BAD: the least int; so are NULL, CAST, INDEX (count() 8 tells).")
    static void getIsBadAndCountTellsNothing() {
        for (int s : outside(0, 3)) {
            refused("get(" + s + ", 0, 0)", Boundaries::rich, x -> x.get(s, 0, 0), LEAST, 0);
        }
        for (int form : outside(0, 2)) {
            refused("get(0, " + form + ", 0)", Boundaries::rich, x -> x.get(0, form, 0), LEAST, 0);
            refused("get(3, " + form + ", 0), BAD ahead of NULL", Boundaries::rich, x -> x.get(3, form, 0), LEAST, 0);
        }
    }

    @Sentence(under = "Promise 32: get", says = "BAD: the least int; so are NULL, CAST, INDEX (count() 8 tells).")
    static void getIsNullAheadOfCastAheadOfIndex() {
        for (int form = 0; form < 3; form++) {
            int as = form;
            getFinds("NULL ahead of INDEX, as " + form, x -> x.get(3, as, 9), 1);
            getFinds("NULL, as " + form, x -> x.get(3, as, 0), 1);
        }
        getFinds("CAST ahead of INDEX", x -> x.get(0, 0, 9), 3);
        getFinds("CAST ahead of INDEX below", x -> x.get(0, 1, -1), 3);
        getFinds("CAST", x -> x.get(2, 2, 0), 3);
        for (int i : outside(0, 4)) {
            getFinds("INDEX " + i, x -> x.get(2, 1, i), 2);
        }
    }

    // ---- Promise 33

    @Sentence(under = "Promise 33: copy",
        says = "n items of SHEET s, from i on, come to SHEET t (perhaps s, as they were), from j on: 1.")
    static void copyOfNoneAndOfAll() {
        GorseGold x = counted();
        is("all of the shorter one", x.copy(1, 0, 0, 2, 3), 1);
        itemsAre("to the end of the longer", x, 0, 2, 10, 11, 20, 21, 22);
        x = counted();
        is("to the whole shorter one", x.copy(0, 2, 1, 0, 3), 1);
        itemsAre("from the end of the longer", x, 1, 2, 12, 13, 14);
        x = counted();
        is("none, from behind the last to behind the last", x.copy(0, 5, 1, 3, 0), 1);
        is("none, from the first to the first", x.copy(0, 0, 1, 0, 0), 1);
        is("no finding of these", x.count(8), 5);
        itemsAre("none to it", x, 1, 2, 20, 21, 22);
        x.sheet(1, 2, 0);
        is("none to a row of none", x.copy(0, 0, 1, 0, 0), 1);
        x = new GorseGold();
        x.sheet(0, 0, 60);
        x.sheet(1, 0, 60);
        x.lay(0, 0, 0, 7);
        x.lay(0, 0, 59, 8);
        is("all sixty", x.copy(0, 0, 1, 0, 60), 1);
        is("item 0", x.get(1, 0, 0), 7);
        is("item 59", x.get(1, 0, 59), 8);
    }

    @Sentence(under = "Promise 33: copy",
        says = "n items of SHEET s, from i on, come to SHEET t (perhaps s, as they were), from j on: 1.")
    static void copyToItselfTakesItemsAsTheyWere() {
        GorseGold x = counted();
        is("up by one", x.copy(0, 0, 0, 1, 4), 1);
        itemsAre("up by one", x, 0, 2, 10, 10, 11, 12, 13);
        x = counted();
        is("up by two", x.copy(0, 0, 0, 2, 3), 1);
        itemsAre("up by two", x, 0, 2, 10, 11, 10, 11, 12);
        x = counted();
        is("down by one", x.copy(0, 1, 0, 0, 4), 1);
        itemsAre("down by one", x, 0, 2, 11, 12, 13, 14, 14);
        x = counted();
        is("where it is", x.copy(0, 0, 0, 0, 5), 1);
        itemsAre("where it is", x, 0, 2, 10, 11, 12, 13, 14);
    }

    @Sentence(under = "Promise 33: copy", says = "BAD: the SHEETS; NULL: s, t; STORE; INDEX: below 0, not so many.")
    static void copyIsBad() {
        for (int s : outside(0, 3)) {
            bad("copy(" + s + ", 0, 0, 0, 0)", x -> x.copy(s, 0, 0, 0, 0));
            bad("copy(0, 0, " + s + ", 0, 0)", x -> x.copy(0, 0, s, 0, 0));
            bad("copy(" + s + ", 0, 3, 0, 0), BAD ahead of NULL", x -> x.copy(s, 0, 3, 0, 0));
            bad("copy(3, 0, " + s + ", 0, 0), BAD ahead of NULL", x -> x.copy(3, 0, s, 0, 0));
        }
    }

    @Sentence(under = "Promise 33: copy", says = "BAD: the SHEETS; NULL: s, t; STORE; INDEX: below 0, not so many.")
    static void copyIsNullAheadOfStoreAheadOfIndex() {
        finds("NULL s ahead of INDEX", x -> x.copy(3, -1, 0, -1, -1), 1);
        finds("NULL t ahead of INDEX", x -> x.copy(0, -1, 3, -1, -1), 1);
        finds("STORE ahead of INDEX below", x -> x.copy(0, -1, 2, 0, 1), 4);
        finds("STORE ahead of INDEX above", x -> x.copy(2, 0, 0, 0, 61), 4);
        finds("STORE", x -> x.copy(0, 0, 2, 0, 1), 4);
    }

    @Sentence(under = "Promise 33: copy", says = "BAD: the SHEETS; NULL: s, t; STORE; INDEX: below 0, not so many.")
    static void copyBelow0IsIndex() {
        for (int below : new int[] {-1, LEAST}) {
            finds("i " + below, x -> x.copy(0, below, 1, 0, 1), 2);
            finds("j " + below, x -> x.copy(0, 0, 1, below, 1), 2);
            finds("n " + below, x -> x.copy(0, 0, 1, 0, below), 2);
            finds("i " + below + ", n 0", x -> x.copy(0, below, 1, 0, 0), 2);
            finds("j " + below + ", n 0", x -> x.copy(0, 0, 1, below, 0), 2);
        }
    }

    @Sentence(under = "Promise 33: copy", says = "BAD: the SHEETS; NULL: s, t; STORE; INDEX: below 0, not so many.")
    static void copyOfMoreThanThereAreIsIndex() {
        finds("one more than s has", x -> x.copy(1, 0, 0, 0, 4), 2);
        finds("one more than s has behind i", x -> x.copy(0, 4, 1, 0, 2), 2);
        finds("one more than t has", x -> x.copy(0, 0, 1, 0, 4), 2);
        finds("one more than t has behind j", x -> x.copy(0, 0, 1, 2, 2), 2);
        finds("one from behind the last", x -> x.copy(0, 5, 1, 0, 1), 2);
        finds("one to behind the last", x -> x.copy(0, 0, 1, 3, 1), 2);
        finds("none from farther behind", x -> x.copy(0, 6, 1, 0, 0), 2);
        finds("none to farther behind", x -> x.copy(0, 0, 1, 4, 0), 2);
        finds("one more to itself", x -> x.copy(0, 0, 0, 1, 5), 2);
        int most = Integer.MAX_VALUE;
        finds("the most n", x -> x.copy(0, 0, 1, 0, most), 2);
        finds("the most n, whose sum wraps", x -> x.copy(0, 1, 1, 1, most), 2);
        finds("the most i", x -> x.copy(0, most, 1, 0, 1), 2);
        finds("the most j", x -> x.copy(0, 0, 1, most, 1), 2);
        finds("the most of all", x -> x.copy(0, most, 1, most, most), 2);
    }

    // ---- Promise 34

    @Sentence(under = "Promise 34: write",
        says = "BELIEF behind MONTHS 0 on comes to a SHEET from item 0 on, as many as there are items, 24 at most: how many.")
    static void writeIsAsManyAsThereAreItems24AtMost() {
        for (int n : new int[] {0, 1, 2, 23, 24, 25, 60}) {
            for (int form = 0; form < 3; form++) {
                GorseGold x = Due.gold("ca9", "a0;b0");
                x.sheet(0, form, n);
                for (int i = 0; i < n; i++) {
                    x.lay(0, form, i, 77);
                }
                is("write(0) of " + n, x.write(0), Math.min(n, 24));
                for (int i = 0; i < n; i++) {
                    is("item " + i + " of " + n, x.get(0, form, i), i < 24 ? x.hill(i, 1) : 77);
                }
                is("lose(0)", x.lose(0), n);
            }
        }
    }

    @Sentence(under = "Promise 34: write",
        says = "BELIEF behind MONTHS 0 on comes to a SHEET from item 0 on, as many as there are items, 24 at most: how many.")
    static void writeTells0And100() {
        GorseGold x = Due.gold("ca9;cg9", "a0;b0");
        x.set(0, 100);
        x.sheet(0, 0, 2);
        x.write(0);
        is("100", x.get(0, 0, 1), 100);
        x = new GorseGold();
        x.set(0, 0);
        x.sheet(0, 0, 2);
        x.write(0);
        is("0", x.get(0, 0, 1), 0);
    }

    @Sentence(under = "Promise 34: write", says = "BAD; NULL.")
    static void writeIsBad() {
        for (int s : outside(0, 3)) {
            bad("write(" + s + ")", x -> x.write(s));
        }
    }

    @Sentence(under = "Promise 34: write", says = "BAD; NULL.")
    static void writeToALostSheetIsNull() {
        refused("write(3)", Boundaries::rich, x -> x.write(3), -11, 1);
    }
}
