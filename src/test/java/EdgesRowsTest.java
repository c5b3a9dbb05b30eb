import java.util.function.Consumer;
import java.util.function.ToIntFunction;

/** The sentences of the document that name a boundary case: AN IMAGE, promises 41 to 45, 512 calls; a test for each. */
final class EdgesRowsTest {
    private static final int LOW = Integer.MIN_VALUE, HIGH = Integer.MAX_VALUE;

    public static void main(String[] args) {
        Due.sentence("An object is used for at most 512 calls", EdgesRowsTest::lastCall);
        Due.sentence("5: AN IMAGE keeps all but SHEETS, SLOTS, numbers that wait, THE TAPE", EdgesRowsTest::keepsAll);
        Due.sentence("5: all but SHEETS, SLOTS, numbers that wait, THE TAPE", EdgesRowsTest::keepsNot);
        Due.sentence("5: all can become as it is (again and again)", EdgesRowsTest::againAndAgain);
        Due.sentence("Promises: calls that tell change nothing", EdgesRowsTest::telling);
        Due.sentence("5: THE NOONS TOLD: by THE IMAGE", EdgesRowsTest::byTheImage);
        Due.sentence("5: THE NOONS TOLD: STEPS so far; CORN of all FIELDS, behind each", EdgesRowsTest::soFar);
        Due.sentence("Promise 41: one more number waits: how many", EdgesRowsTest::tellMany);
        Due.sentence("Promise 41: FULL: 60 wait", EdgesRowsTest::tellFull);
        Due.sentence("Promise 42: (none do then, whatever is answered)", EdgesRowsTest::noneWait);
        Due.sentence("Promise 42: n (1 .. 30), two by two: 0", EdgesRowsTest::checkAll);
        Due.sentence("Promise 42: fewer, if THE IMAGE's NOON would be above 9999", EdgesRowsTest::checkFewer);
        Due.sentence("Promise 42: the first that is not", EdgesRowsTest::checkIsNot);
        Due.sentence("Promise 42: (or is missing)", EdgesRowsTest::checkMissing);
        Due.sentence("Promise 42: (or one too many)", EdgesRowsTest::checkTooMany);
        Due.sentence("Promise 42: BAD", EdgesRowsTest::checkBad);
        Due.sentence("Promise 42: NO: there is no IMAGE", EdgesRowsTest::checkNo);
        Due.sentence("Promise 43: how many PEOPLE", EdgesRowsTest::keepMany);
        Due.sentence("Promise 43: AN IMAGE is kept, and nothing else is other", EdgesRowsTest::keepAlone);
        Due.sentence("Promise 44: how many PEOPLE", EdgesRowsTest::backMany);
        Due.sentence("Promise 44: NO: there is none", EdgesRowsTest::backNo);
        Due.sentence("Promise 45: how many", EdgesRowsTest::countAll);
        Due.sentence("Promise 45: BAD", EdgesRowsTest::countBad);
        Due.end("EdgesRowsTest");
    }

    private static void tell(NoonFields x, int... v) {
        for (int k : v) {
            x.tell(k);
        }
    }

    // ---- Terms

    private static void lastCall() {
        NoonFields x = Made.neighbours(1, 0);
        int calls = 2;
        for (; calls < 510; calls++) {
            Due.is("call " + (calls + 1), x.far(0, 8), 4);
        }
        Due.is("call 511", x.noons(1), 0);
        Due.is("call 512", x.year(0), 10);
    }

    /** Each of all that AN IMAGE keeps becomes as it was, and another thing stays as it was. */
    private static void comesBack(String what, Consumer<NoonFields> change) {
        NoonFields x = Made.busy();
        x.keep();
        change.accept(x);
        Due.is("back behind " + what, x.back(), 4);
        NoonFields y = Made.busy();
        y.keep();
        Due.isSame("all behind " + what, Everything.of(x), Everything.of(y));
    }

    private static void keepsAll() {
        comesBack("nothing", x -> { });
        comesBack("person", x -> x.person(1, 1, 1));
        comesBack("turns", x -> x.turns(0, 5));
        comesBack("set HOME", x -> x.set(0, 1, 8));
        comesBack("set HIRE", x -> x.set(3, 2, 99));
        comesBack("talk", x -> x.talk(0, 1, 1));
        comesBack("no talk", x -> x.talk(0, 2, 0));
        comesBack("lays OWNER", x -> x.lays(8, 0, 7));
        comesBack("lays CORN", x -> x.lays(0, 1, 99));
        comesBack("lays ROOM", x -> x.lays(0, 2, 0));
        comesBack("late", x -> x.late(0));
        comesBack("deal", x -> x.deal(8));
        comesBack("seed", x -> x.seed(LOW));
        comesBack("noons", x -> x.noons(100));
        comesBack("pour", x -> x.pour(0));
        comesBack("talk of one that came", x -> {
            x.person(0, 0, 0);
            x.talk(0, 4, 1);
        });
        comesBack("text", EdgesRowsTest::textAndTape);
    }

    /** A TEXT, and THE TAPE again as it was. */
    private static void textAndTape(NoonFields x) {
        Due.text(x, "walk 0", 2);
        Due.text(x, "toll 1", 3);
        Due.text(x, "fine 2", 4);
        Due.feed(x, "toll s+100*l");
    }

    private static void keepsNot() {
        NoonFields x = Made.busy();
        x.keep();
        x.sheet(0, 1, 2);
        x.mark(0, 1, 77);
        x.sheet(1, -1, 0);
        x.lay(0, 0, 0);
        x.lay(1, 3, 41);
        x.lay(4, 1, 0);
        x.check(1);
        x.tell(5);
        Due.feed(x, "toll 8");
        Due.is("back", x.back(), 4);
        Due.is("a SHEET", x.mark(0, 2, 1), Due.INDEX);
        Due.is("its sort", x.mark(0, 0, Due.NONE), 1);
        Due.is("its place", x.atHome(0, 0, 1), Math.abs(77 - x.field(1, 1)));
        Due.is("a SHEET that is MISSING", x.reads(1), Due.NOTHING);
        Due.is("a SLOT", x.rest(0, 1), Due.NOTHING);
        Due.is("a SLOT", x.rest(1, 100), 41);
        Due.is("a SLOT", x.ask(4, 0), 20);
        Due.is("numbers that wait", x.count(5), 1);
        Due.is("THE TAPE", x.count(6), 6);
        Due.is("THE TAPE", x.text(), 2);
    }

    private static void againAndAgain() {
        NoonFields x = Made.neighbours(2, 0);
        x.keep();
        for (int again = 0; again < 5; again++) {
            x.noons(10 + again);
            x.person(0, 0, 0);
            Due.text(x, "walk " + again, 0);
            Due.is("back", x.back(), 2);
            Due.is("THE NOON", x.count(1), 0);
            Due.is("STEPS", x.year(0), 0);
            Due.is("HAD", x.told(0, 3), 0);
            Due.is("CORN", x.year(2), 90);
            Due.is("TEXTS", x.count(4), 0);
            Due.is("WALK", x.walk(0, 8, 0), 50);
            Due.is("back at once", x.back(), 2);
        }
        x.noons(1);
        x.keep();
        x.noons(5);
        x.back();
        Due.is("a new IMAGE in the place of the old one", x.count(1), 1);
        Due.text(x, "walk 7", 0);
        x.keep();
        Due.text(x, "walk 8", 1);
        x.back();
        Due.is("TEXTS of THE IMAGE", x.walk(0, 0, 0), 7);
        Due.text(x, "walk 9", 1);
        x.back();
        Due.is("TEXTS of THE IMAGE again", x.walk(0, 0, 0), 7);
        Due.is("one TEXT", x.textTold(1, 0), Due.BAD);
    }

    private static void tells(String call, int want, ToIntFunction<NoonFields> of) {
        Due.refused(Made::busy, call, want, of);
    }

    private static void telling() {
        tells("told", 42, x -> x.told(1, 2));
        tells("walk", 1, x -> x.walk(1, 2, 1));
        tells("as", 42, x -> x.as(1, 3));
        tells("field", Made.busy().field(8, 1), x -> x.field(8, 1));
        tells("far", 4, x -> x.far(2, 6));
        tells("year", Made.busy().year(2), x -> x.year(2));
        tells("toll", Made.busy().year(0), x -> x.toll());
        tells("fine", Made.busy().fine(0), x -> x.fine(0));
        tells("textTold", 4, x -> x.textTold(0, 1));
        tells("why", 1, x -> x.why(2));
        tells("reads", Made.busy().reads(0), x -> x.reads(0));
        tells("ask", 92, x -> x.ask(0, 0));
        tells("item", 99999, x -> x.item(1, 0));
        tells("rest", -2, x -> x.rest(2, 5));
        tells("count", 4, x -> x.count(5));
        tells("seed as it was", Made.busy().count(7), x -> x.seed(x.count(7)));
        tells("trim as it was", 12, x -> x.trim(12));
        tells("copy of 0 places", 0, x -> x.copy(1, 0, 1, 5, 0));
    }

    private static void byTheImage() {
        NoonFields x = Made.neighbours(1, 4);
        x.keep();
        x.set(0, 1, 0);
        x.lays(4, 1, 99);
        x.lays(4, 2, 0);
        x.person(0, 4, 0);
        Due.text(x, "walk 900", 0);
        x.noons(3);
        tell(x, 10, 89, 19, 88);
        Due.is("by THE IMAGE", x.check(2), 0);
        Due.is("nothing is other for that", x.count(1), 3);
        Due.is("nothing is other for that", x.count(0), 2);
        x.keep();
        tell(x, x.behind(1, 0), x.behind(1, 2));
        Due.is("by the new IMAGE", x.check(1), 0);
        NoonFields y = Made.neighbours(1, 4);
        Due.text(y, "walk 900", 0);
        y.keep();
        Due.text(y, "walk 7", 1);
        tell(y, 900, 89, 1800, 88);
        Due.is("by THE IMAGE's TEXTS", y.check(2), 0);
        y.back();
        Due.text(y, "walk 5", 1);
        tell(y, 900, 89);
        Due.is("by THE IMAGE's TEXTS", y.check(1), 0);
    }

    private static void soFar() {
        NoonFields x = Made.neighbours(2, 4);
        x.lays(4, 2, 2);
        x.noons(1);
        x.keep();
        tell(x, 19 + 8 + 7, 86, 19 + 8 + 7 + 6 + 5, 84);
        Due.is("STEPS with those ahead of THE IMAGE", x.check(2), 0);
        NoonFields y = new NoonFields();
        y.keep();
        tell(y, 0, 90, 0, 90);
        Due.is("with nobody", y.check(2), 0);
    }

    // ---- tell, check

    private static void tellMany() {
        NoonFields x = new NoonFields();
        for (int k = 1; k <= 60; k++) {
            Due.is("tell", x.tell(k % 2 == 0 ? LOW : HIGH), k);
            Due.is("numbers that wait", x.count(5), k);
        }
        x.check(1);
        Due.is("tell anew", x.tell(Due.NONE), 1);
    }

    private static NoonFields sixty() {
        NoonFields x = Made.busy();
        x.check(1);
        for (int k = 0; k < 30; k++) {
            tell(x, k, -k);
        }
        return x;
    }

    private static void tellFull() {
        Due.is("60 wait", sixty().count(5), 60);
        Due.refused(EdgesRowsTest::sixty, "the 61st", Due.FULL, x -> x.tell(0));
        Due.refused(EdgesRowsTest::sixty, "the 61st", Due.FULL, x -> x.tell(LOW));
        NoonFields x = Made.neighbours(1, 4);
        x.keep();
        tell(x, thirty());
        Due.is("the 61st", x.tell(7), Due.FULL);
        Due.is("the sixty are as they were", x.check(30), 0);
        NoonFields y = sixty();
        y.check(1);
        Due.is("room again", y.tell(0), 1);
    }

    /** THE NOONS TOLD of 30 of one at home on 4, with 10 of CORN there. */
    private static int[] thirty() {
        int[] due = new int[60];
        int steps = 0;
        for (int k = 0; k < 30; k++) {
            steps += Math.max(0, 10 - k);
            due[2 * k] = steps;
            due[2 * k + 1] = Math.max(80, 89 - k);
        }
        return due;
    }

    private static void noneWait() {
        NoonFields x = Made.neighbours(1, 4);
        tell(x, 10, 89);
        Due.is("NO", x.check(1), Due.NO);
        Due.is("none wait", x.count(5), 0);
        tell(x, 10, 89);
        Due.is("BAD, and no IMAGE", x.check(0), Due.BAD);
        Due.is("none wait", x.count(5), 0);
        x.keep();
        for (int n : new int[] {0, 31, LOW, HIGH}) {
            tell(x, 10, 89);
            Due.is("BAD", x.check(n), Due.BAD);
            Due.is("none wait", x.count(5), 0);
        }
        tell(x, 10, 89);
        Due.is("as they are", x.check(1), 0);
        Due.is("none wait", x.count(5), 0);
        tell(x, 10, 88);
        Due.is("not as they are", x.check(1), 2);
        Due.is("none wait", x.count(5), 0);
        Due.is("missing", x.check(1), 1);
        tell(x, 10, 89, 19);
        Due.is("too many", x.check(1), 3);
        Due.is("none wait", x.count(5), 0);
    }

    private static void checkAll() {
        int[] due = thirty();
        for (int n : new int[] {1, 2, 29, 30}) {
            NoonFields x = Made.neighbours(1, 4);
            x.keep();
            for (int k = 0; k < 2 * n; k++) {
                x.tell(due[k]);
            }
            Due.is("check of " + n, x.check(n), 0);
        }
    }

    private static NoonFields imageAt(int noon) {
        NoonFields x = new NoonFields();
        Made.noonsUpTo(x, noon);
        x.keep();
        return x;
    }

    /** As nobody is there, STEPS are 0 and CORN is 90 ever. */
    private static int checkOf(int noon, int noonsTold, int n) {
        NoonFields x = imageAt(noon);
        for (int k = 0; k < noonsTold; k++) {
            tell(x, 0, 90);
        }
        return x.check(n);
    }

    private static void checkFewer() {
        Due.is("30 of 30 up to 9999", checkOf(9969, 30, 30), 0);
        Due.is("29 of 30 up to 9999", checkOf(9970, 29, 30), 0);
        Due.is("30 told, where there are 29", checkOf(9970, 30, 30), 59);
        Due.is("28 told, where there are 29", checkOf(9970, 28, 30), 57);
        Due.is("2 of 2", checkOf(9997, 2, 2), 0);
        Due.is("1 of 2", checkOf(9998, 1, 2), 0);
        Due.is("1 of 1", checkOf(9998, 1, 1), 0);
        Due.is("none told of 1", checkOf(9998, 0, 1), 1);
        Due.is("none of 1", checkOf(9999, 0, 1), 0);
        Due.is("none of 30", checkOf(9999, 0, 30), 0);
        Due.is("one told, where there is none", checkOf(9999, 1, 1), 1);
        Due.is("30 told, where there is none", checkOf(9999, 30, 30), 1);
        NoonFields x = imageAt(9998);
        x.noons(1);
        tell(x, 0, 90);
        Due.is("THE IMAGE's NOON, not THE NOON", x.check(3), 0);
        NoonFields y = new NoonFields();
        y.keep();
        Made.noonsUpTo(y, 9999);
        tell(y, 0, 90, 0, 90);
        Due.is("THE IMAGE's NOON, not THE NOON", y.check(2), 0);
        Due.is("BAD, where there are none", imageAt(9999).check(31), Due.BAD);
    }

    private static void checkIsNot() {
        int[] due = thirty();
        for (int slip = 0; slip < 60; slip++) {
            NoonFields x = Made.neighbours(1, 4);
            x.keep();
            for (int k = 0; k < 60; k++) {
                x.tell(k < slip ? due[k] : due[k] + 1 + k % 3);
            }
            Due.is("number " + slip + " is not", x.check(30), 1 + slip);
        }
        NoonFields y = Made.neighbours(1, 4);
        y.keep();
        tell(y, 10, 88, 5, 5, 5, 5, 5);
        Due.is("ahead of those too many", y.check(1), 2);
    }

    private static void checkMissing() {
        int[] due = thirty();
        for (int told = 0; told < 60; told++) {
            NoonFields x = Made.neighbours(1, 4);
            x.keep();
            for (int k = 0; k < told; k++) {
                x.tell(due[k]);
            }
            Due.is(told + " told of 60", x.check(30), 1 + told);
        }
        NoonFields y = new NoonFields();
        y.keep();
        tell(y, 0, 90);
        y.check(1);
        Due.is("what waited before does not count", y.check(1), 1);
        Made.corn(y, 0);
        y.keep();
        Due.is("a 0 is missing", y.check(1), 1);
    }

    private static void checkTooMany() {
        int[] due = thirty();
        for (int n = 1; n < 30; n++) {
            for (int more = 1; more <= 2; more++) {
                NoonFields x = Made.neighbours(1, 4);
                x.keep();
                for (int k = 0; k < 2 * n + more; k++) {
                    x.tell(due[k]);
                }
                Due.is(more + " too many for " + n, x.check(n), 1 + 2 * n);
            }
        }
    }

    /** Nothing changes but that no numbers wait: as on another one where none do. */
    private static void refusedCheck(NoonFields x, NoonFields y, int n, int want) {
        Due.is("check of " + n, x.check(n), want);
        Due.isSame("all behind check", Everything.of(x), Everything.of(y));
    }

    private static void checkBad() {
        for (int n : new int[] {LOW, -1, 0, 31, HIGH}) {
            NoonFields y = Made.busy();
            Due.is("a check that is no refusal", y.check(2), 0);
            refusedCheck(Made.busy(), y, n, Due.BAD);
            Due.is("BAD ahead of NO", new NoonFields().check(n), Due.BAD);
        }
        Due.is("1 is not BAD", new NoonFields().check(1), Due.NO);
        Due.is("30 is not BAD", new NoonFields().check(30), Due.NO);
    }

    private static void checkNo() {
        for (int n = 1; n <= 30; n += 29) {
            NoonFields x = Made.neighbours(2, 4);
            x.tell(1);
            refusedCheck(x, Made.neighbours(2, 4), n, Due.NO);
        }
    }

    // ---- keep, back, count

    private static void keepMany() {
        for (int many = 0; many <= 8; many++) {
            NoonFields x = Made.neighbours(many, 0);
            Due.is("keep", x.keep(), many);
            Due.is("keep again", x.keep(), many);
            x.deal(1);
            Due.is("keep of one more", x.keep(), Math.min(8, many + 1));
        }
    }

    private static void keepAlone() {
        NoonFields x = new NoonFields();
        x.person(0, 4, 0);
        x.sheet(0, 0, 1);
        x.lay(0, 3, 7);
        x.feed(0, 0, 0);
        x.trim(5);
        String all = Everything.told(x);
        tell(x, 10, 89);
        x.keep();
        Due.is("numbers that wait", x.count(5), 2);
        Due.is("they are as they were", x.check(1), 0);
        Due.isSame("all that is told", Everything.told(x), all);
        Due.is("a SHEET", x.mark(0, 0, 1), 1);
        Due.is("a SLOT", x.rest(0, 5), 2);
    }

    private static void backMany() {
        for (int many = 0; many <= 8; many++) {
            NoonFields x = Made.neighbours(many, 0);
            x.keep();
            x.deal(8);
            Due.is("back", x.back(), many);
            Due.is("PEOPLE", x.count(0), many);
            Due.is("none behind the last one", x.told(many, 0), Due.BAD);
            Due.is("room for as many as ever", x.deal(8), 8 - many);
            Due.is("back again", x.back(), many);
        }
    }

    private static void backNo() {
        Due.refused(() -> Made.neighbours(3, 0), "no IMAGE", Due.NO, x -> x.back());
        Due.is("no IMAGE of nobody", new NoonFields().back(), Due.NO);
        NoonFields x = new NoonFields();
        x.keep();
        Due.is("an IMAGE of nobody", x.back(), 0);
    }

    private static void countAll() {
        NoonFields x = Made.neighbours(8, 4);
        Due.is("PEOPLE", x.count(0), 8);
        Made.noonsUpTo(x, 3);
        Due.is("THE NOON", x.count(1), 3);
        x.late(100);
        Due.is("LATE", x.count(2), 100);
        x.talk(0, 7, 1);
        x.talk(7, 6, 1);
        x.talk(0, 7, 0);
        Due.is("two of whom there is TALK", x.count(3), 1);
        Due.text(x, "walk 1", 0);
        Due.text(x, "walk ", -105);
        Due.is("TEXTS", x.count(4), 1);
        tell(x, 5, 5, 5);
        Due.is("numbers that wait", x.count(5), 3);
        x.feed(0, 0, 0);
        x.trim(7);
        Due.is("bytes", x.count(6), 7);
        x.seed(LOW);
        Due.is("z", x.count(7), LOW);
        x.seed(Due.BAD);
        Due.is("z", x.count(7), Due.BAD);
    }

    private static void countBad() {
        Due.only(Made::busy, "count", 0, 7, (x, v) -> x.count(v));
    }
}
