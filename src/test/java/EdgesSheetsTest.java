import java.util.function.Supplier;

/** The sentences of the document that name a boundary case: Terms 5, promises 32 to 40; a test for each. */
final class EdgesSheetsTest {
    private static final int LOW = Integer.MIN_VALUE, HIGH = Integer.MAX_VALUE;

    public static void main(String[] args) {
        Due.sentence("5: SHEETS 0 .. 3, MISSING (at first)", EdgesSheetsTest::missingAtFirst);
        Due.sentence("5: shorts (sort 0) or floats (1; whole numbers)", EdgesSheetsTest::sorts);
        Due.sentence("5: 0 to 24 places", EdgesSheetsTest::places);
        Due.sentence("5: a place of floats may be NO NUMBER", EdgesSheetsTest::noNumber);
        Due.sentence("5: SLOTS 0 .. 4 each hold nothing (at first)", EdgesSheetsTest::nothingAtFirst);
        Due.sentence("5: one of PEOPLE (as it is then, for good)", EdgesSheetsTest::oneForGood);
        Due.sentence("5: a SHEET (a row of its own, as it was then)", EdgesSheetsTest::rowOfItsOwn);
        Due.sentence("Promise 32: all 0", EdgesSheetsTest::sheetAllZero);
        Due.sentence("Promise 32: (sort -1: MISSING, n any; 0)", EdgesSheetsTest::sheetMissing);
        Due.sentence("Promise 32: BAD: sheet, sort, n above 24", EdgesSheetsTest::sheetBad);
        Due.sentence("Promise 32: SIZE", EdgesSheetsTest::sheetSize);
        Due.sentence("Promise 33: of shorts its lowest 16 bits, with a sign", EdgesSheetsTest::markShorts);
        Due.sentence("Promise 33: of floats v, -99999 .. 99999; NONE: NO NUMBER", EdgesSheetsTest::markFloats);
        Due.sentence("Promise 33: BAD: sheet; NOTHING; INDEX", EdgesSheetsTest::markRefused);
        Due.sentence("Promise 33: KIND: NONE in a row of shorts", EdgesSheetsTest::markKind);
        Due.sentence("Promise 33: BAD: v of floats", EdgesSheetsTest::markBadFloat);
        Due.sentence("Promise 34: each held within 0 .. 99", EdgesSheetsTest::pourHeld);
        Due.sentence("Promise 34: NO NUMBER, and beyond the SHEET: it stays", EdgesSheetsTest::pourStays);
        Due.sentence("Promise 34: how many FIELDS have other CORN then", EdgesSheetsTest::pourMany);
        Due.sentence("Promise 34: BAD; NOTHING", EdgesSheetsTest::pourRefused);
        Due.sentence("Promise 35: the first place (of numbers alone)", EdgesSheetsTest::readsFirst);
        Due.sentence("Promise 35: of places that are none of them all numbers are not", EdgesSheetsTest::readsBeyond);
        Due.sentence("Promise 35: BAD; NOTHING; NONE", EdgesSheetsTest::readsRefused);
        copies();
        slots();
        Due.end("EdgesSheetsTest");
    }

    private static void copies() {
        Due.sentence("Promise 36: (or the same), as they were", EdgesSheetsTest::copyWithin);
        Due.sentence("Promise 36: 0 places may stand at the end", EdgesSheetsTest::copyNone);
        Due.sentence("Promise 36: BAD", EdgesSheetsTest::copyBad);
        Due.sentence("Promise 36: NOTHING", EdgesSheetsTest::copyNothing);
        Due.sentence("Promise 36: KIND: they are not of one sort", EdgesSheetsTest::copyKind);
        Due.sentence("Promise 36: INDEX (also if many is below 0)", EdgesSheetsTest::copyIndex);
    }

    private static void slots() {
        Due.sentence("Promise 37: what it held (0 .. 3)", EdgesSheetsTest::layHeld);
        Due.sentence("Promise 37: a SLOT holds", EdgesSheetsTest::layOver);
        Due.sentence("Promise 37: BAD: slot, thing, k", EdgesSheetsTest::layBad);
        Due.sentence("Promise 37: NOTHING: that SHEET is MISSING", EdgesSheetsTest::layNothing);
        Due.sentence("Promise 38: its own WORTH", EdgesSheetsTest::askOwn);
        Due.sentence("Promise 38: BAD; NOTHING", EdgesSheetsTest::askRefused);
        Due.sentence("Promise 38: KIND", EdgesSheetsTest::askKind);
        Due.sentence("Promise 39: BAD: slot; NOTHING; KIND; INDEX", EdgesSheetsTest::itemRefused);
        Due.sentence("Promise 39: KIND: NO NUMBER", EdgesSheetsTest::itemNoNumber);
        Due.sentence("Promise 40: the rest of the number", EdgesSheetsTest::restOf);
        Due.sentence("Promise 40: BAD: slot; NOTHING; KIND", EdgesSheetsTest::restRefused);
        Due.sentence("Promise 40: NO: n is 0", EdgesSheetsTest::restByZero);
    }

    /** A place of a SHEET, told by way of SLOT 4. */
    private static int place(NoonFields x, int sheet, int place) {
        x.lay(4, 2, sheet);
        return x.item(4, place);
    }

    private static void row(NoonFields x, int sheet, int... due) {
        x.lay(4, 2, sheet);
        for (int k = 0; k < due.length; k++) {
            Due.is("place " + k + " of SHEET " + sheet, x.item(4, k), due[k]);
        }
        Due.is("behind the last place", x.item(4, due.length), Due.INDEX);
    }

    private static void put(NoonFields x, int sheet, int sort, int... of) {
        x.sheet(sheet, sort, of.length);
        for (int k = 0; k < of.length; k++) {
            x.mark(sheet, k, of[k]);
        }
    }

    // ---- Terms

    private static void missingAtFirst() {
        for (int sheet = 0; sheet < 4; sheet++) {
            NoonFields x = new NoonFields();
            Due.is("mark", x.mark(sheet, 0, 0), Due.NOTHING);
            Due.is("pour", x.pour(sheet), Due.NOTHING);
            Due.is("reads", x.reads(sheet), Due.NOTHING);
            Due.is("atHome", x.atHome(sheet, 0, 0), Due.NOTHING);
            Due.is("copy", x.copy(sheet, 0, sheet, 0, 0), Due.NOTHING);
            Due.is("lay", x.lay(0, 2, sheet), Due.NOTHING);
            Due.is("it becomes a row", x.sheet(sheet, 1, 1), 1);
            for (int other = 0; other < 4; other++) {
                Due.is("which of them", x.reads(other), other == sheet ? 0 : Due.NOTHING);
            }
        }
    }

    private static void sorts() {
        NoonFields x = new NoonFields();
        put(x, 0, 0, 40000);
        put(x, 1, 1, 40000);
        row(x, 0, 40000 - 65536);
        row(x, 1, 40000);
        Due.is("the other sort", x.sheet(0, 1, 1), 1);
        x.mark(0, 0, 40000);
        row(x, 0, 40000);
        Due.is("the other sort", x.sheet(1, 0, 1), 1);
        x.mark(1, 0, 40000);
        row(x, 1, 40000 - 65536);
    }

    private static void places() {
        for (int sort = 0; sort < 2; sort++) {
            for (int n : new int[] {0, 1, 23, 24}) {
                NoonFields x = new NoonFields();
                Due.is("sheet", x.sheet(2, sort, n), n);
                for (int k = 0; k < n; k++) {
                    Due.is("mark " + k, x.mark(2, k, k + 1), 1);
                }
                Due.is("mark behind the last", x.mark(2, n, 1), Due.INDEX);
                for (int k = 0; k < n; k++) {
                    Due.is("place " + k, place(x, 2, k), k + 1);
                }
                Due.is("place behind the last", place(x, 2, n), Due.INDEX);
            }
        }
    }

    private static void noNumber() {
        NoonFields x = new NoonFields();
        put(x, 0, 1, 1, Due.NONE, 3);
        row(x, 0, 1, Due.KIND, 3);
        Due.is("a number again", x.mark(0, 1, 0), 1);
        row(x, 0, 1, 0, 3);
        x.mark(0, 1, Due.NONE);
        x.mark(0, 1, Due.NONE);
        x.sheet(0, 1, 3);
        row(x, 0, 0, 0, 0);
        put(x, 0, 1, Due.NONE, Due.NONE, Due.NONE);
        x.sheet(0, 0, 3);
        row(x, 0, 0, 0, 0);
    }

    private static void nothingAtFirst() {
        for (int slot = 0; slot < 5; slot++) {
            NoonFields x = new NoonFields();
            Due.is("ask", x.ask(slot, 0), Due.NOTHING);
            Due.is("item", x.item(slot, 0), Due.NOTHING);
            Due.is("rest", x.rest(slot, 1), Due.NOTHING);
            Due.is("lay", x.lay(slot, 3, 100 + slot), 0);
            for (int other = 0; other < 5; other++) {
                Due.is("which of them", x.rest(other, 1000), other == slot ? 100 + slot : Due.NOTHING);
            }
        }
    }

    private static void oneForGood() {
        NoonFields x = new NoonFields();
        x.keep();
        x.person(3, 0, 7);
        x.lay(0, 1, 0);
        x.set(0, 2, 90);
        Due.is("HIRE as it was then", x.ask(0, 3), 22);
        x.turns(0, 5);
        Due.is("KIND as it was then", x.ask(0, 3), 22);
        Due.is("no other KIND", x.ask(0, 5), Due.KIND);
        x.lay(1, 1, 0);
        Due.is("as it is now", x.ask(1, 5), 3);
        x.back();
        Due.is("nobody", x.count(0), 0);
        Due.is("it is held all the same", x.ask(0, 1), 22);
        x.person(0, 0, 50);
        Due.is("not another one by its number", x.ask(0, 0), 22);
        Due.is("not another one by its number", x.ask(1, 0), 3);
    }

    private static void rowOfItsOwn() {
        NoonFields x = new NoonFields();
        put(x, 0, 1, 1, Due.NONE, 3);
        x.lay(0, 2, 0);
        x.mark(0, 0, 7);
        x.mark(0, 1, 8);
        x.mark(0, 2, Due.NONE);
        Due.is("as it was", x.item(0, 0), 1);
        Due.is("as it was", x.item(0, 1), Due.KIND);
        Due.is("as it was", x.item(0, 2), 3);
        x.lay(1, 2, 0);
        x.sheet(0, 0, 5);
        Due.is("places as they were", x.item(0, 3), Due.INDEX);
        Due.is("as it was", x.item(1, 0), 7);
        x.sheet(0, -1, 0);
        Due.is("it is not MISSING", x.item(0, 2), 3);
        Due.is("it is not MISSING", x.item(1, 2), Due.KIND);
        x.keep();
        x.back();
        Due.is("as it was", x.item(1, 1), 8);
    }

    // ---- sheet, mark

    private static void sheetAllZero() {
        for (int sort = 0; sort < 2; sort++) {
            NoonFields x = new NoonFields();
            put(x, 3, 1, 5, Due.NONE, 7, 8);
            Due.is("sheet", x.sheet(3, sort, 6), 6);
            row(x, 3, 0, 0, 0, 0, 0, 0);
            Due.is("fewer", x.sheet(3, sort, 2), 2);
            row(x, 3, 0, 0);
            Due.is("none", x.sheet(3, sort, 0), 0);
            row(x, 3);
        }
    }

    private static void sheetMissing() {
        for (int n : new int[] {0, 1, 24, 25, -1, LOW, HIGH}) {
            NoonFields x = new NoonFields();
            put(x, 1, 0, 4, 5);
            Due.is("sheet with n " + n, x.sheet(1, -1, n), 0);
            Due.is("MISSING", x.reads(1), Due.NOTHING);
            Due.is("again", x.sheet(1, -1, n), 0);
            Due.is("a row anew", x.sheet(1, 0, 2), 2);
            row(x, 1, 0, 0);
        }
    }

    private static void sheetBad() {
        Due.only(Made::busy, "sheet", 0, 3, (x, v) -> x.sheet(v, 0, 1));
        Due.only(Made::busy, "sheet to lose", 0, 3, (x, v) -> x.sheet(v, -1, 1));
        Due.only(Made::busy, "sort", -1, 1, (x, v) -> x.sheet(0, v, 1));
        for (int sort = 0; sort < 2; sort++) {
            int of = sort;
            for (int n : new int[] {25, 26, HIGH}) {
                Due.refused(Made::busy, "n of " + n, Due.BAD, x -> x.sheet(1, of, n));
            }
            Due.is("n of 24", Made.busy().sheet(1, sort, 24), 24);
        }
    }

    private static void sheetSize() {
        for (int sort = 0; sort < 2; sort++) {
            int of = sort;
            for (int n : new int[] {-1, -2, LOW}) {
                Due.refused(Made::busy, "n of " + n, Due.SIZE, x -> x.sheet(1, of, n));
            }
            Due.is("n of 0", Made.busy().sheet(1, sort, 0), 0);
        }
        Due.refused(Made::busy, "BAD ahead of SIZE", Due.BAD, x -> x.sheet(4, 0, -1));
        Due.refused(Made::busy, "BAD ahead of SIZE", Due.BAD, x -> x.sheet(0, 2, -1));
        Due.refused(Made::busy, "BAD ahead of SIZE", Due.BAD, x -> x.sheet(0, -2, -1));
    }

    private static void markShorts() {
        int[] v = {0, 1, -1, 32767, 32768, 32769, -32767, -32768, -32769, 65535, 65536, 65537, -65536, 98304, 98303,
            HIGH, LOW, Due.NONE - 1, Due.NONE + 1, 0x12348765};
        int[] due = {0, 1, -1, 32767, -32768, -32767, -32767, -32768, 32767, -1, 0, 1, 0, -32768, 32767,
            -1, 0, 13818, 13820, -30875};
        for (int k = 0; k < v.length; k++) {
            NoonFields x = new NoonFields();
            x.sheet(0, 0, 3);
            Due.is("mark of " + v[k], x.mark(0, 1, v[k]), 1);
            row(x, 0, 0, due[k], 0);
        }
    }

    private static void markFloats() {
        for (int v : new int[] {0, 1, -1, 99998, 99999, -99998, -99999, 32768, 65536, -32769}) {
            NoonFields x = new NoonFields();
            x.sheet(0, 1, 3);
            Due.is("mark of " + v, x.mark(0, 2, v), 1);
            row(x, 0, 0, 0, v);
            Due.is("mark of NONE", x.mark(0, 2, Due.NONE), 1);
            row(x, 0, 0, 0, Due.KIND);
        }
    }

    private static void markRefused() {
        Due.only(Made::busy, "mark", 0, 3, (x, v) -> x.mark(v, 0, 1));
        for (int v : new int[] {LOW, -1, 4, HIGH}) {
            Due.refused(Made::busy, "no such SHEET", Due.BAD, x -> x.mark(v, 0, 1));
            Due.refused(Made::busy, "BAD ahead of all", Due.BAD, x -> x.mark(v, -1, Due.NONE));
        }
        Due.refused(Made::busy, "MISSING", Due.NOTHING, x -> x.mark(2, 0, 1));
        Due.refused(Made::busy, "NOTHING ahead of INDEX", Due.NOTHING, x -> x.mark(3, -1, 1));
        Due.refused(Made::busy, "NOTHING ahead of KIND", Due.NOTHING, x -> x.mark(3, 0, Due.NONE));
        Due.only(Made::busy, "place of shorts", 0, 2, Due.INDEX, (x, v) -> x.mark(0, v, 1));
        Due.only(Made::busy, "place of floats", 0, 4, Due.INDEX, (x, v) -> x.mark(1, v, 1));
        Due.only(Made::busy, "INDEX ahead of KIND", 0, 2, Due.INDEX, (x, v) -> x.mark(0, v, Due.NONE));
        Due.only(Made::busy, "INDEX ahead of BAD", 0, 4, Due.INDEX, (x, v) -> x.mark(1, v, 100000));
    }

    private static void markKind() {
        for (int place = 0; place < 3; place++) {
            int at = place;
            Due.refused(Made::busy, "NONE in shorts", Due.KIND, x -> x.mark(0, at, Due.NONE));
        }
        Due.is("NONE in floats", Made.busy().mark(1, 0, Due.NONE), 1);
    }

    private static void markBadFloat() {
        Due.only(Made::busy, "v of floats", -99999, 99999, (x, v) -> x.mark(1, 4, v));
        for (int v : new int[] {Due.NONE - 1, Due.NONE + 1, Due.BAD, Due.NOTHING}) {
            Due.refused(Made::busy, "v of floats", Due.BAD, x -> x.mark(1, 4, v));
        }
        Due.is("v of shorts", Made.busy().mark(0, 0, 100000), 1);
    }

    // ---- pour, reads

    private static void corn(NoonFields x, int... due) {
        for (int f = 0; f < 9; f++) {
            Due.is("CORN of " + f, x.field(f, 1), f < due.length ? due[f] : 10);
        }
    }

    private static void pourHeld() {
        NoonFields x = new NoonFields();
        put(x, 0, 1, -99999, -1, 0, 1, 98, 99, 100, 99999, 50);
        Due.is("pour of floats", x.pour(0), 9);
        corn(x, 0, 0, 0, 1, 98, 99, 99, 99, 50);
        NoonFields y = new NoonFields();
        put(y, 0, 0, -32768, -1, 0, 1, 98, 99, 100, 32767, 32768);
        Due.is("pour of shorts", y.pour(0), 9);
        corn(y, 0, 0, 0, 1, 98, 99, 99, 99, 0);
        row(y, 0, -32768, -1, 0, 1, 98, 99, 100, 32767, -32768);
    }

    private static void pourStays() {
        NoonFields x = new NoonFields();
        put(x, 0, 1, Due.NONE, 5, Due.NONE);
        Due.is("NO NUMBER", x.pour(0), 1);
        corn(x, 10, 5, 10);
        x.sheet(0, 0, 0);
        Due.is("no places", x.pour(0), 0);
        corn(x, 10, 5, 10);
        x.sheet(0, 0, 1);
        Due.is("one place", x.pour(0), 1);
        corn(x, 0, 5, 10);
        NoonFields y = new NoonFields();
        put(y, 0, 0, 1, 1, 1, 1, 1, 1, 1, 1);
        Due.is("eight places", y.pour(0), 8);
        corn(y, 1, 1, 1, 1, 1, 1, 1, 1, 10);
        NoonFields z = new NoonFields();
        z.sheet(0, 0, 24);
        Due.is("24 places", z.pour(0), 9);
        corn(z, 0, 0, 0, 0, 0, 0, 0, 0, 0);
    }

    private static void pourMany() {
        NoonFields x = new NoonFields();
        put(x, 0, 1, 10, 10, 11, 9, 10, Due.NONE, 10, 10, 10);
        Due.is("two have other CORN", x.pour(0), 2);
        Due.is("none has other CORN", x.pour(0), 0);
        Made.corn(x, 99);
        put(x, 0, 1, 99, 100, 500, 98);
        Due.is("held, one has other CORN", x.pour(0), 1);
        Made.corn(x, 0);
        put(x, 0, 1, -5, 0, 1);
        Due.is("held, one has other CORN", x.pour(0), 1);
        NoonFields y = Made.neighbours(1, 0);
        put(y, 0, 1, 30, 30, 30);
        y.pour(0);
        y.noons(1);
        Due.is("FIELD 3 is nearer now", y.told(0, 3), 8);
    }

    private static void pourRefused() {
        Due.only(Made::busy, "pour", 0, 3, (x, v) -> x.pour(v));
        Due.refused(Made::busy, "MISSING", Due.NOTHING, x -> x.pour(2));
        Due.refused(Made::busy, "MISSING", Due.NOTHING, x -> x.pour(3));
    }

    /** HOURS of 0, 1, 2 are 3, 0, 0. */
    private static NoonFields hours() {
        NoonFields x = Made.neighbours(3, 0);
        x.lays(1, 0, 0);
        x.lays(2, 2, 0);
        Due.text(x, "walk 9*(d=0)+d", 0);
        x.noons(3);
        x.lays(1, 0, 8);
        Due.is("HOURS of 0", x.told(0, 4), 3);
        Due.is("HOURS together", x.year(4), 3);
        return x;
    }

    private static void readsFirst() {
        NoonFields x = hours();
        put(x, 0, 1, 3, 0, 0);
        Due.is("as they are", x.reads(0), Due.NONE);
        put(x, 0, 1, 3, 0, 1);
        Due.is("2 is not", x.reads(0), 2);
        put(x, 0, 1, 3, 7, 1);
        Due.is("1 is not, and 2", x.reads(0), 1);
        put(x, 0, 1, 2, 0, 0);
        Due.is("0 is not", x.reads(0), 0);
        put(x, 0, 1, Due.NONE, 5, 5);
        Due.is("NO NUMBER at 0", x.reads(0), 1);
        put(x, 0, 1, Due.NONE, Due.NONE, 0);
        Due.is("NO NUMBER at 0 and 1", x.reads(0), Due.NONE);
        put(x, 0, 0, 3);
        Due.is("fewer places", x.reads(0), Due.NONE);
        put(x, 0, 0, 3 + 65536);
        Due.is("a short", x.reads(0), Due.NONE);
    }

    private static void readsBeyond() {
        NoonFields x = hours();
        put(x, 0, 1, 3, 0, 0, 0);
        Due.is("3 is none of them", x.reads(0), 3);
        put(x, 0, 1, 3, 0, 0, Due.NONE, Due.NONE, 0);
        Due.is("5 is none of them", x.reads(0), 5);
        put(x, 0, 1, 3, 0, 0, Due.NONE, Due.NONE);
        Due.is("numbers alone", x.reads(0), Due.NONE);
        NoonFields y = new NoonFields();
        y.sheet(0, 0, 1);
        Due.is("nobody", y.reads(0), 0);
        y.sheet(0, 0, 0);
        Due.is("nobody, no places", y.reads(0), Due.NONE);
        NoonFields z = Made.neighbours(8, 0);
        z.sheet(0, 1, 24);
        Due.is("8 is none of them", z.reads(0), 8);
        for (int k = 8; k < 23; k++) {
            z.mark(0, k, Due.NONE);
        }
        Due.is("23 is none of them", z.reads(0), 23);
        z.mark(0, 23, Due.NONE);
        Due.is("all eight", z.reads(0), Due.NONE);
    }

    private static void readsRefused() {
        Due.only(Made::busy, "reads", 0, 3, (x, v) -> x.reads(v));
        Due.refused(Made::busy, "MISSING", Due.NOTHING, x -> x.reads(2));
        Due.refused(Made::busy, "MISSING", Due.NOTHING, x -> x.reads(3));
        Supplier<NoonFields> empty = () -> {
            NoonFields x = Made.busy();
            x.sheet(3, 0, 0);
            return x;
        };
        Due.refused(empty, "no places", Due.NONE, x -> x.reads(3));
    }

    // ---- copy

    private static NoonFields rows() {
        NoonFields x = new NoonFields();
        put(x, 0, 1, 1, 2, Due.NONE, 4, 5, 6);
        put(x, 1, 1, 0, 0, 0, 0);
        put(x, 2, 0, 7, 8);
        return x;
    }

    private static void copyWithin() {
        NoonFields x = rows();
        Due.is("up", x.copy(0, 0, 0, 1, 5), 5);
        row(x, 0, 1, 1, 2, Due.KIND, 4, 5);
        row(x, 1, 0, 0, 0, 0);
        NoonFields y = rows();
        Due.is("down", y.copy(0, 1, 0, 0, 5), 5);
        row(y, 0, 2, Due.KIND, 4, 5, 6, 6);
        NoonFields z = rows();
        Due.is("onto itself", z.copy(0, 0, 0, 0, 6), 6);
        row(z, 0, 1, 2, Due.KIND, 4, 5, 6);
        Due.is("to another one", z.copy(0, 2, 1, 0, 4), 4);
        row(z, 1, Due.KIND, 4, 5, 6);
        Due.is("numbers over NO NUMBER", z.copy(0, 3, 1, 0, 1), 1);
        row(z, 1, 4, 4, 5, 6);
        Due.is("the other one stays", z.copy(1, 0, 0, 0, 0), 0);
        row(z, 0, 1, 2, Due.KIND, 4, 5, 6);
        NoonFields w = new NoonFields();
        w.sheet(0, 0, 24);
        w.sheet(1, 0, 24);
        w.mark(0, 23, -3);
        Due.is("all 24", w.copy(0, 0, 1, 0, 24), 24);
        Due.is("the last one", place(w, 1, 23), -3);
    }

    private static void copyNone() {
        NoonFields x = rows();
        Due.is("0 places at both ends", x.copy(0, 6, 1, 4, 0), 0);
        Due.is("0 places at both begins", x.copy(0, 0, 1, 0, 0), 0);
        x.sheet(3, 1, 0);
        Due.is("0 places of none to none", x.copy(3, 0, 3, 0, 0), 0);
        Due.is("0 places of none to the end", x.copy(3, 0, 1, 4, 0), 0);
        Due.is("0 places of 24 to the end", x.sheet(3, 1, 24) + x.copy(3, 24, 3, 24, 0), 24);
        row(x, 0, 1, 2, Due.KIND, 4, 5, 6);
        row(x, 1, 0, 0, 0, 0);
        Due.is("0 places behind the end", x.copy(0, 7, 1, 4, 0), Due.INDEX);
        Due.is("0 places behind the other end", x.copy(0, 6, 1, 5, 0), Due.INDEX);
    }

    private static void copyBad() {
        Due.only(Made::busy, "copy from", 0, 3, (x, v) -> x.copy(v, 0, 1, 0, 0));
        Due.only(Made::busy, "copy to", 0, 3, (x, v) -> x.copy(1, 0, v, 0, 0));
        Due.refused(Made::busy, "BAD ahead of NOTHING", Due.BAD, x -> x.copy(2, 0, 4, 0, 0));
        Due.refused(Made::busy, "BAD ahead of NOTHING", Due.BAD, x -> x.copy(4, 0, 2, 0, 0));
        Due.refused(Made::busy, "BAD ahead of INDEX", Due.BAD, x -> x.copy(1, 0, 4, 0, -1));
    }

    private static void copyNothing() {
        Due.refused(Made::busy, "from MISSING", Due.NOTHING, x -> x.copy(2, 0, 1, 0, 0));
        Due.refused(Made::busy, "to MISSING", Due.NOTHING, x -> x.copy(1, 0, 3, 0, 1));
        Due.refused(Made::busy, "from and to MISSING", Due.NOTHING, x -> x.copy(2, 0, 2, 0, 0));
        Due.refused(Made::busy, "NOTHING ahead of INDEX", Due.NOTHING, x -> x.copy(0, -1, 2, 0, -1));
    }

    private static void copyKind() {
        Due.refused(Made::busy, "shorts to floats", Due.KIND, x -> x.copy(0, 0, 1, 0, 1));
        Due.refused(Made::busy, "floats to shorts", Due.KIND, x -> x.copy(1, 0, 0, 0, 1));
        Due.refused(Made::busy, "0 places", Due.KIND, x -> x.copy(1, 0, 0, 0, 0));
        Due.refused(Made::busy, "KIND ahead of INDEX", Due.KIND, x -> x.copy(1, 0, 0, 0, -1));
        Due.refused(Made::busy, "KIND ahead of INDEX", Due.KIND, x -> x.copy(0, 9, 1, 9, 9));
        NoonFields x = rows();
        x.sheet(3, 0, 2);
        Due.is("shorts to shorts", x.copy(2, 0, 3, 0, 2), 2);
        row(x, 3, 7, 8);
    }

    /** From SHEET 0 of 6 places to SHEET 1 of 4. */
    private static void copyIndex() {
        int[][] beyond = {{-1, 0, 1}, {0, -1, 1}, {0, 0, -1}, {0, 0, 5}, {3, 0, 4}, {2, 1, 4}, {6, 0, 1}, {0, 4, 1},
            {7, 0, 0}, {0, 5, 0}, {-1, 0, 0}, {0, -1, 0}, {-1, 0, 2}, {0, -1, 2}, {6, 4, -1}, {1, 1, -1},
            {HIGH, 0, 0}, {HIGH, 0, 1}, {0, HIGH, 1}, {1, 0, HIGH}, {0, 1, HIGH}, {HIGH, HIGH, HIGH}, {LOW, 0, 0},
            {0, LOW, 0}, {0, 0, LOW}, {LOW, LOW, LOW}, {HIGH, 0, LOW}, {6, 4, HIGH}, {1, 1, LOW}};
        for (int[] at : beyond) {
            Due.refused(EdgesSheetsTest::manyRows, at[0] + " " + at[1] + " " + at[2], Due.INDEX,
                    x -> x.copy(0, at[0], 1, at[1], at[2]));
        }
        int[][] within = {{0, 0, 4}, {2, 0, 4}, {5, 3, 1}, {0, 3, 1}, {5, 0, 1}, {6, 4, 0}};
        for (int[] at : within) {
            Due.is("within", rows().copy(0, at[0], 1, at[1], at[2]), at[2]);
        }
    }

    private static NoonFields manyRows() {
        NoonFields x = rows();
        x.person(0, 0, 0);
        return x;
    }

    // ---- SLOTS

    private static void layHeld() {
        int[] k = {-9, 1, 1, LOW};
        for (int first = 0; first < 4; first++) {
            for (int second = 0; second < 4; second++) {
                NoonFields x = Made.busy();
                x.lay(0, 0, 0);
                Due.is("held nothing", x.lay(0, first, k[first]), 0);
                Due.is("held " + first, x.lay(0, second, k[second]), first);
                Due.is("held " + second, x.lay(0, 0, 0), second);
                Due.is("held nothing", x.lay(0, 0, 0), 0);
            }
        }
        NoonFields y = Made.busy();
        int[] due = {1, 2, 3, 2, 0};
        for (int slot = 0; slot < 5; slot++) {
            Due.is("SLOT " + slot, y.lay(slot, 0, HIGH), due[slot]);
        }
    }

    /** What a SLOT held before is gone: it holds one thing. */
    private static void layOver() {
        int[] k = {0, 1, 1, 41};
        for (int before = 0; before < 4; before++) {
            for (int now = 0; now < 4; now++) {
                NoonFields x = Made.busy();
                x.lay(4, before, k[before]);
                x.lay(4, now, k[now]);
                int none = now == 0 ? Due.NOTHING : Due.KIND;
                Due.is("ask of " + now + " over " + before, x.ask(4, 1), now == 1 ? 92 : none);
                Due.is("item of " + now + " over " + before, x.item(4, 0), now == 2 ? 99999 : none);
                Due.is("rest of " + now + " over " + before, x.rest(4, 100), now == 3 ? 41 : none);
            }
        }
        NoonFields x = Made.busy();
        x.lay(4, 2, 1);
        x.lay(4, 2, 0);
        Due.is("shorts over floats", x.item(4, 1), 13);
        Due.is("fewer places over more", x.item(4, 3), Due.INDEX);
        x.lay(4, 1, 0);
        x.lay(4, 1, 3);
        Due.is("one over another one", x.ask(4, 5), 3);
        x.lay(4, 3, 5);
        x.lay(4, 3, 6);
        Due.is("a number over another one", x.rest(4, 100), 6);
    }

    private static void layBad() {
        for (int thing = 0; thing < 4; thing++) {
            int of = thing;
            Due.only(Made::busy, "SLOT for " + thing, 0, 4, (x, v) -> x.lay(v, of, 1));
        }
        Due.only(Made::busy, "thing", 0, 3, (x, v) -> x.lay(4, v, 0));
        Due.only(Made::busy, "one", 0, 3, (x, v) -> x.lay(4, 1, v));
        Due.only(Made::busy, "SHEET", 0, 3, (x, v) -> x.lay(4, 2, v));
        for (int v : new int[] {LOW, -1, 4, HIGH}) {
            Due.is("any number", Made.busy().lay(4, 3, v), 0);
            Due.is("any nothing", Made.busy().lay(2, 0, v), 3);
            Due.refused(Made::busy, "over what it holds", Due.BAD, x -> x.lay(2, 1, v));
            Due.refused(Made::busy, "over what it holds", Due.BAD, x -> x.lay(0, 2, v));
        }
    }

    private static void layNothing() {
        for (int sheet = 2; sheet < 4; sheet++) {
            int k = sheet;
            for (int slot = 0; slot < 5; slot++) {
                int to = slot;
                Due.refused(Made::busy, "MISSING", Due.NOTHING, x -> x.lay(to, 2, k));
            }
            Due.refused(Made::busy, "BAD ahead of NOTHING", Due.BAD, x -> x.lay(5, 2, k));
        }
        NoonFields x = Made.busy();
        x.sheet(3, 0, 0);
        Due.is("no places is not MISSING", x.lay(4, 2, 3), 0);
        Due.is("it holds a SHEET", x.item(4, 0), Due.INDEX);
    }

    private static void askOwn() {
        int[][] worth = {{0, 4, 99, 8, 93, 3}, {99, 103, 0, 206, -6, 3}};
        for (int hire = 0; hire <= 99; hire += 99) {
            for (int kind = 0; kind < 6; kind++) {
                NoonFields x = new NoonFields();
                x.person(kind, 0, hire);
                x.lay(4, 1, 0);
                for (int as = 0; as < 6; as++) {
                    Due.is(kind + " as " + as, x.ask(4, as), x.as(0, as) == hire ? worth[hire / 99][kind] : Due.KIND);
                }
            }
        }
    }

    private static void askRefused() {
        Due.only(Made::busy, "SLOT", 0, 4, (x, v) -> x.ask(v, 0));
        Due.only(Made::busy, "KIND", 0, 5, (x, v) -> x.ask(0, v));
        Due.refused(Made::busy, "nothing", Due.NOTHING, x -> x.ask(4, 0));
        for (int slot = 0; slot < 5; slot++) {
            int of = slot;
            Due.refused(Made::busy, "BAD ahead of all", Due.BAD, x -> x.ask(of, 6));
            Due.refused(Made::busy, "BAD ahead of all", Due.BAD, x -> x.ask(of, -1));
        }
    }

    private static void askKind() {
        for (int slot = 1; slot < 4; slot++) {
            int of = slot;
            for (int kind = 0; kind < 6; kind++) {
                int as = kind;
                Due.refused(Made::busy, "none of PEOPLE", Due.KIND, x -> x.ask(of, as));
            }
        }
        for (int kind : new int[] {2, 4, 5}) {
            Due.refused(Made::busy, "an OLD one as " + kind, Due.KIND, x -> x.ask(0, kind));
        }
        Due.is("an OLD one as LAME", Made.busy().ask(0, 1), 92);
        NoonFields x = Made.neighbours(1, 0);
        x.lay(0, 1, 0);
        for (int kind = 1; kind < 6; kind++) {
            Due.is("a NEIGHBOUR as one under it", x.ask(0, kind), Due.KIND);
        }
        x.turns(0, 1);
        x.lay(0, 1, 0);
        Due.is("a LAME one as OLD", x.ask(0, 3), Due.KIND);
    }

    private static void itemRefused() {
        Due.only(Made::busy, "SLOT", 0, 4, (x, v) -> x.item(v, 0));
        Due.refused(Made::busy, "nothing", Due.NOTHING, x -> x.item(4, 0));
        Due.refused(Made::busy, "NOTHING ahead of INDEX", Due.NOTHING, x -> x.item(4, -1));
        for (int place : new int[] {0, -1, 24, LOW, HIGH}) {
            Due.refused(Made::busy, "one of PEOPLE", Due.KIND, x -> x.item(0, place));
            Due.refused(Made::busy, "a number", Due.KIND, x -> x.item(2, place));
            Due.refused(Made::busy, "no such SLOT", Due.BAD, x -> x.item(5, place));
        }
        Due.only(Made::busy, "place of floats", 0, 4, Due.INDEX, (x, v) -> x.item(1, v));
        Due.only(Made::busy, "place of shorts", 0, 2, Due.INDEX, (x, v) -> x.item(3, v));
        NoonFields x = new NoonFields();
        x.sheet(0, 1, 24);
        x.mark(0, 23, 5);
        x.lay(0, 2, 0);
        Due.is("the last of 24", x.item(0, 23), 5);
        Due.is("behind the last of 24", x.item(0, 24), Due.INDEX);
    }

    private static void itemNoNumber() {
        Due.refused(Made::busy, "NO NUMBER", Due.KIND, x -> x.item(1, 3));
        Due.is("a number", Made.busy().item(1, 0), 99999);
        Due.is("a number", Made.busy().item(1, 4), 0);
        NoonFields x = new NoonFields();
        put(x, 0, 1, Due.NONE);
        x.lay(0, 2, 0);
        Due.is("NO NUMBER", x.item(0, 0), Due.KIND);
        Due.is("behind NO NUMBER", x.item(0, 1), Due.INDEX);
    }

    private static void restOf() {
        int[] number = {17, 17, -17, -17, 0, 5, 5, LOW, LOW, LOW, HIGH, HIGH, HIGH, 6, -6, 1};
        int[] by = {5, -5, 5, -5, 3, 5, HIGH, -1, LOW, HIGH, -1, LOW, HIGH, 1, 1, LOW};
        int[] due = {2, 2, -2, -2, 0, 0, 5, 0, 0, -1, 0, HIGH, 0, 0, 0, 1};
        for (int k = 0; k < number.length; k++) {
            NoonFields x = new NoonFields();
            x.lay(0, 3, number[k]);
            Due.is("rest of " + number[k] + " by " + by[k], x.rest(0, by[k]), due[k]);
        }
    }

    private static void restRefused() {
        Due.only(Made::busy, "SLOT", 0, 4, (x, v) -> x.rest(v, 1));
        for (int n : new int[] {0, 1, -1}) {
            Due.refused(Made::busy, "nothing", Due.NOTHING, x -> x.rest(4, n));
            Due.refused(Made::busy, "one of PEOPLE", Due.KIND, x -> x.rest(0, n));
            Due.refused(Made::busy, "a SHEET", Due.KIND, x -> x.rest(1, n));
            Due.refused(Made::busy, "no such SLOT", Due.BAD, x -> x.rest(5, n));
        }
    }

    private static void restByZero() {
        Due.refused(Made::busy, "by 0", Due.NO, x -> x.rest(2, 0));
        NoonFields x = new NoonFields();
        x.lay(0, 3, 0);
        Due.is("0 by 0", x.rest(0, 0), Due.NO);
        Due.is("0 by 1", x.rest(0, 1), 0);
    }
}
