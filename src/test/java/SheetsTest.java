/** Promises 32 to 40: SHEETS and SLOTS. */
final class SheetsTest {
    private static final int LOW = Integer.MIN_VALUE, HIGH = Integer.MAX_VALUE;

    public static void main(String[] args) {
        promise32();
        promise33();
        promise34();
        promise35();
        promise36();
        promise36Refused();
        promise37();
        promise38();
        promise39();
        promise40();
        Due.end("SheetsTest");
    }

    /** A place of a SHEET, told by way of SLOT 4. */
    private static int place(NoonFields x, int sheet, int place) {
        x.lay(4, 2, sheet);
        return x.item(4, place);
    }

    private static void promise32() {
        NoonFields x = new NoonFields();
        Due.is("sheet", x.sheet(0, 0, 24), 24);
        for (int k = 0; k < 24; k++) {
            Due.is("0 at first", place(x, 0, k), 0);
        }
        Due.is("24 places", place(x, 0, 24), Due.INDEX);
        x.mark(0, 3, 5);
        Due.is("sheet anew", x.sheet(0, 0, 4), 4);
        Due.is("0 again", place(x, 0, 3), 0);
        Due.is("4 places", place(x, 0, 4), Due.INDEX);
        x.sheet(0, 1, 4);
        x.mark(0, 0, Due.NONE);
        x.mark(0, 3, Due.NONE);
        Due.is("sheet of floats anew", x.sheet(0, 1, 4), 4);
        for (int k = 0; k < 4; k++) {
            Due.is("0, a number", place(x, 0, k), 0);
        }
        Due.is("no places", x.sheet(3, 1, 0), 0);
        Due.is("no place", x.mark(3, 0, 0), Due.INDEX);
        Due.is("MISSING, n any", x.sheet(0, -1, LOW), 0);
        Due.is("it is MISSING", x.pour(0), Due.NOTHING);
        Due.is("MISSING, n any", x.sheet(0, -1, HIGH), 0);
        x.sheet(1, 0, 2);
        x.mark(1, 1, 8);
        for (int v : new int[] {LOW, -1, 4, HIGH}) {
            Due.is("no such SHEET", x.sheet(v, 0, 1), Due.BAD);
            Due.is("no such SHEET to lose", x.sheet(v, -1, 1), Due.BAD);
        }
        for (int v : new int[] {LOW, -2, 2, HIGH}) {
            Due.is("no such sort", x.sheet(1, v, 1), Due.BAD);
        }
        Due.is("n above 24", x.sheet(1, 0, 25), Due.BAD);
        Due.is("n above 24", x.sheet(1, 1, HIGH), Due.BAD);
        Due.is("n below 0", x.sheet(1, 0, -1), Due.SIZE);
        Due.is("n below 0", x.sheet(1, 1, LOW), Due.SIZE);
        Due.is("BAD ahead of SIZE", x.sheet(1, 2, -1), Due.BAD);
        Due.is("as it was", place(x, 1, 1), 8);
    }

    private static void promise33() {
        NoonFields x = new NoonFields();
        Due.is("MISSING", x.mark(0, 0, 0), Due.NOTHING);
        x.sheet(0, 0, 3);
        x.sheet(1, 1, 3);
        int[] v = {0, 1, -1, 32767, 32768, -32768, -32769, 65535, 65536, 98304, HIGH, LOW, Due.BAD};
        for (int k : v) {
            Due.is("mark of shorts", x.mark(0, 2, k), 1);
            Due.is("lowest 16 bits of " + k, place(x, 0, 2), (short) k);
        }
        Due.is("NONE in shorts", x.mark(0, 2, Due.NONE), Due.KIND);
        Due.is("as it was", place(x, 0, 2), (short) Due.BAD);
        for (int k : new int[] {0, 99999, -99999, 32768}) {
            Due.is("mark of floats", x.mark(1, 2, k), 1);
            Due.is("float " + k, place(x, 1, 2), k);
        }
        for (int k : new int[] {100000, -100000, LOW, HIGH, Due.NONE + 1, Due.BAD}) {
            Due.is("float beyond", x.mark(1, 2, k), Due.BAD);
            Due.is("as it was", place(x, 1, 2), 32768);
        }
        Due.is("NO NUMBER", x.mark(1, 2, Due.NONE), 1);
        Due.is("NO NUMBER", place(x, 1, 2), Due.KIND);
        Due.is("a number again", x.mark(1, 2, 5), 1);
        Due.is("a number again", place(x, 1, 2), 5);
        Due.is("its neighbour", place(x, 1, 1), 0);
        for (int k : new int[] {LOW, -1, 4, HIGH}) {
            Due.is("no such SHEET", x.mark(k, 0, 0), Due.BAD);
        }
        for (int k : new int[] {LOW, -1, 3, HIGH}) {
            Due.is("no such place", x.mark(0, k, 0), Due.INDEX);
            Due.is("INDEX ahead of KIND", x.mark(0, k, Due.NONE), Due.INDEX);
            Due.is("INDEX ahead of BAD", x.mark(1, k, 100000), Due.INDEX);
        }
        Due.is("NOTHING ahead of INDEX", x.mark(2, -1, 0), Due.NOTHING);
    }

    private static void promise34() {
        NoonFields x = new NoonFields();
        Due.is("pour of none", x.pour(0), Due.NOTHING);
        for (int v : new int[] {LOW, -1, 4, HIGH}) {
            Due.is("pour of no SHEET", x.pour(v), Due.BAD);
        }
        x.sheet(0, 1, 6);
        int[] of = {99, 100, 10, 0, -5, Due.NONE};
        int[] due = {99, 99, 10, 0, 0, 10};
        for (int k = 0; k < 6; k++) {
            x.mark(0, k, of[k]);
        }
        Due.is("pour", x.pour(0), 4);
        for (int f = 0; f < 9; f++) {
            Due.is("CORN of " + f, x.field(f, 1), f < 6 ? due[f] : 10);
        }
        Due.is("pour again", x.pour(0), 0);
        x.sheet(1, 0, 24);
        for (int k = 0; k < 24; k++) {
            x.mark(1, k, k + 40);
        }
        Due.is("pour of more places than FIELDS", x.pour(1), 9);
        Due.is("CORN of 8", x.field(8, 1), 48);
        x.sheet(1, 0, 0);
        Due.is("pour of no places", x.pour(1), 0);
    }

    private static void promise35() {
        NoonFields x = new NoonFields();
        Due.is("reads of none", x.reads(0), Due.NOTHING);
        for (int v : new int[] {LOW, -1, 4, HIGH}) {
            Due.is("reads of no SHEET", x.reads(v), Due.BAD);
        }
        x.sheet(0, 0, 0);
        Due.is("no places", x.reads(0), Due.NONE);
        x.sheet(0, 0, 1);
        Due.is("a place of none of them, a number", x.reads(0), 0);
        x.person(0, 0, 0);
        x.person(0, 0, 0);
        Due.is("HOURS 0", x.reads(0), Due.NONE);
        x.lays(0, 0, 1);
        x.noons(2);
        x.sheet(1, 1, 4);
        Due.is("HOURS of 1 are 2", x.reads(1), 1);
        x.mark(1, 1, 2);
        Due.is("2 is none of them", x.reads(1), 2);
        x.mark(1, 2, Due.NONE);
        Due.is("3 is none of them", x.reads(1), 3);
        x.mark(1, 3, Due.NONE);
        Due.is("numbers alone", x.reads(1), Due.NONE);
        x.mark(1, 0, 1);
        Due.is("HOURS of 0", x.reads(1), 0);
        x.mark(1, 0, Due.NONE);
        Due.is("NO NUMBER is left out", x.reads(1), Due.NONE);
        x.sheet(3, 0, 1);
        Due.is("HOURS of 0 are 0", x.reads(3), Due.NONE);
    }

    private static NoonFields rows() {
        NoonFields x = new NoonFields();
        x.sheet(0, 1, 6);
        x.sheet(1, 1, 4);
        x.sheet(2, 0, 4);
        for (int k = 0; k < 6; k++) {
            x.mark(0, k, k == 2 ? Due.NONE : k + 1);
        }
        return x;
    }

    private static void row(NoonFields x, int sheet, int... due) {
        for (int k = 0; k < due.length; k++) {
            Due.is("place " + k + " of SHEET " + sheet, place(x, sheet, k), due[k]);
        }
    }

    private static void promise36() {
        NoonFields x = rows();
        Due.is("copy", x.copy(0, 1, 1, 0, 3), 3);
        row(x, 1, 2, Due.KIND, 4, 0);
        row(x, 0, 1, 2, Due.KIND, 4, 5, 6);
        Due.is("copy over NO NUMBER", x.copy(0, 4, 1, 1, 2), 2);
        row(x, 1, 2, 5, 6, 0);
        Due.is("copy within, up", x.copy(0, 0, 0, 1, 5), 5);
        row(x, 0, 1, 1, 2, Due.KIND, 4, 5);
        Due.is("copy within, down", x.copy(0, 1, 0, 0, 5), 5);
        row(x, 0, 1, 2, Due.KIND, 4, 5, 5);
        Due.is("no places at the end", x.copy(0, 6, 1, 4, 0), 0);
        Due.is("all", x.copy(1, 0, 0, 2, 4), 4);
        row(x, 0, 1, 2, 2, 5, 6, 0);
    }

    private static void promise36Refused() {
        NoonFields x = rows();
        for (int v : new int[] {LOW, -1, 4, HIGH}) {
            Due.is("copy from none", x.copy(v, 0, 1, 0, 0), Due.BAD);
            Due.is("copy to none", x.copy(0, 0, v, 0, 0), Due.BAD);
        }
        Due.is("MISSING", x.copy(3, 0, 0, 0, 0), Due.NOTHING);
        Due.is("MISSING", x.copy(0, 0, 3, 0, 0), Due.NOTHING);
        Due.is("BAD ahead of NOTHING", x.copy(3, 0, 4, 0, 0), Due.BAD);
        Due.is("sorts", x.copy(0, 0, 2, 0, 1), Due.KIND);
        Due.is("KIND ahead of INDEX", x.copy(2, 0, 0, 0, -1), Due.KIND);
        int[][] beyond = {{-1, 0, 1}, {0, -1, 1}, {0, 0, -1}, {3, 0, 4}, {0, 1, 4}, {7, 0, 0}, {0, 5, 0},
            {-1, 0, 0}, {0, -1, 0}, {HIGH, 0, 1}, {0, HIGH, 1}, {1, 0, HIGH}, {0, 1, HIGH}, {HIGH, HIGH, HIGH},
            {LOW, 0, 0}, {0, 0, LOW}};
        for (int[] at : beyond) {
            Due.is("beyond", x.copy(0, at[0], 1, at[1], at[2]), Due.INDEX);
        }
        row(x, 1, 0, 0, 0, 0);
    }

    private static void promise37() {
        NoonFields x = rows();
        x.person(3, 0, 7);
        Due.is("lay one", x.lay(0, 1, 0), 0);
        Due.is("lay a SHEET", x.lay(0, 2, 0), 1);
        Due.is("lay a number", x.lay(0, 3, LOW), 2);
        Due.is("lay nothing", x.lay(0, 0, LOW), 3);
        Due.is("nothing was held", x.lay(0, 3, 5), 0);
        for (int v : new int[] {LOW, -1, 5, HIGH}) {
            Due.is("no such SLOT", x.lay(v, 3, 0), Due.BAD);
        }
        for (int v : new int[] {LOW, -1, 4, HIGH}) {
            Due.is("no such thing", x.lay(0, v, 0), Due.BAD);
            Due.is("no such SHEET", x.lay(0, 2, v), Due.BAD);
        }
        for (int v : new int[] {LOW, -1, 1, HIGH}) {
            Due.is("no such one", x.lay(0, 1, v), Due.BAD);
        }
        Due.is("MISSING", x.lay(0, 2, 3), Due.NOTHING);
        Due.is("it holds what it held", x.rest(0, 100), 5);
        x.lay(1, 2, 0);
        x.mark(0, 0, 77);
        x.sheet(0, -1, 0);
        Due.is("a row of its own", x.item(1, 0), 1);
        x.lay(2, 1, 0);
        x.set(0, 2, 90);
        x.turns(0, 0);
        Due.is("the one as it was then", x.ask(2, 3), 22);
    }

    private static void promise38() {
        NoonFields x = rows();
        x.keep();
        x.person(4, 0, 50);
        x.lay(0, 1, 0);
        x.lay(1, 2, 0);
        x.lay(2, 3, 0);
        Due.is("its own WORTH", x.ask(0, 0), 43);
        Due.is("its own WORTH", x.ask(0, 2), 43);
        Due.is("its own WORTH", x.ask(0, 4), 43);
        for (int kind : new int[] {1, 3, 5}) {
            Due.is("not of that KIND", x.ask(0, kind), Due.KIND);
        }
        Due.is("none of PEOPLE", x.ask(1, 0), Due.KIND);
        Due.is("none of PEOPLE", x.ask(2, 0), Due.KIND);
        Due.is("nothing", x.ask(3, 0), Due.NOTHING);
        x.lay(4, 1, 0);
        Due.is("the last SLOT", x.ask(4, 0), 43);
        x.lay(4, 0, 0);
        Due.is("nothing again", x.ask(4, 0), Due.NOTHING);
        Due.is("BAD ahead of NOTHING", x.ask(3, 6), Due.BAD);
        x.back();
        Due.is("for good", x.ask(0, 4), 43);
    }

    private static void promise39() {
        NoonFields x = rows();
        x.person(0, 0, 0);
        x.lay(0, 2, 0);
        x.lay(1, 1, 0);
        x.lay(2, 3, 0);
        Due.is("item", x.item(0, 5), 6);
        Due.is("NO NUMBER", x.item(0, 2), Due.KIND);
        for (int v : new int[] {LOW, -1, 6, HIGH}) {
            Due.is("no such place", x.item(0, v), Due.INDEX);
        }
        Due.is("one of PEOPLE", x.item(1, 0), Due.KIND);
        Due.is("a number", x.item(2, -1), Due.KIND);
        Due.is("nothing", x.item(3, 0), Due.NOTHING);
        for (int v : new int[] {LOW, -1, 5, HIGH}) {
            Due.is("no such SLOT", x.item(v, 0), Due.BAD);
        }
    }

    private static void promise40() {
        NoonFields x = rows();
        x.person(0, 0, 0);
        x.lay(0, 3, -17);
        Due.is("rest", x.rest(0, 5), -2);
        Due.is("rest", x.rest(0, -5), -2);
        Due.is("rest", x.rest(0, HIGH), -17);
        Due.is("by 0", x.rest(0, 0), Due.NO);
        x.lay(0, 3, LOW);
        Due.is("rest of the least by -1", x.rest(0, -1), 0);
        x.lay(1, 1, 0);
        x.lay(2, 2, 0);
        Due.is("one of PEOPLE", x.rest(1, 0), Due.KIND);
        Due.is("a SHEET", x.rest(2, 1), Due.KIND);
        Due.is("nothing", x.rest(3, 0), Due.NOTHING);
        for (int v : new int[] {LOW, -1, 5, HIGH}) {
            Due.is("no such SLOT", x.rest(v, 0), Due.BAD);
        }
    }
}
