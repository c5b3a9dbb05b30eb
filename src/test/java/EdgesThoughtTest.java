import java.util.function.Supplier;
import java.util.function.ToIntFunction;

/** The sentences of the document that name a boundary case: Terms 3, promises 17 to 24; a test for each. */
final class EdgesThoughtTest {
    public static void main(String[] args) {
        Due.sentence("3: BEST PLACING: on which it MAY stand", EdgesThoughtTest::bestMay);
        Due.sentence("3: BEST PLACING: no more than ROOM on one", EdgesThoughtTest::bestRoom);
        Due.sentence("3: BEST PLACING: no two of whom there is TALK on one", EdgesThoughtTest::bestTalk);
        Due.sentence("3: BEST PLACING: the least WALK together (CORN as it is)", EdgesThoughtTest::bestLeast);
        Due.sentence("3: BEST PLACING: of several the first in order", EdgesThoughtTest::bestFirst);
        Due.sentence("3: only thought, from now on, z as it is; nothing changes", EdgesThoughtTest::nothingChanges);
        Due.sentence("3: only thought: no thought changes another", EdgesThoughtTest::noThoughtChangesAnother);
        Due.sentence("3: without the bound of THE NOON", EdgesThoughtTest::withoutBound);
        Due.sentence("3: BEHIND n NOONS: both so far; of all, together", EdgesThoughtTest::behindSoFar);
        Due.sentence("3: ROTA of m: behind how many NOONS (0 .. 100)", EdgesThoughtTest::rotaEnds);
        Due.sentence("3: ROTA of m: each of PEOPLE, m FIELDS at least, first", EdgesThoughtTest::rotaFirst);
        Due.sentence("3: ROTA of m: (nobody there: 0)", EdgesThoughtTest::rotaNobody);
        Due.sentence("3: SOLD: if it were its OWNER now, less as it is", EdgesThoughtTest::soldLess);
        Due.sentence("3: NOBODY'S: STEPS and 100 times LEFT, together", EdgesThoughtTest::nobodysSum);
        Due.sentence("3: NOBODY'S: (so far)", EdgesThoughtTest::nobodysSoFar);
        Due.sentence("3: NOBODY'S: of several the least", EdgesThoughtTest::nobodysLeast);
        Due.sentence("3: BESIDE: in the most of n NOONS", EdgesThoughtTest::besideMost);
        Due.sentence("3: BESIDE: the lesser one first; of several the lesser numbers", EdgesThoughtTest::besideLesser);
        Due.sentence("3: AT HOME: it goes nowhere, stands on no FIELD", EdgesThoughtTest::atHomeNowhere);
        Due.sentence("3: AT HOME: who begins is as ever", EdgesThoughtTest::atHomeBegins);
        Due.sentence("3: AT HOME: places k that are numbers differ (signs left out)", EdgesThoughtTest::atHomeDiffer);
        Due.sentence("3: AT HOME: beyond all FIELDS CORN is 0", EdgesThoughtTest::atHomeBeyond);
        Due.sentence("3: AT HOME: of several the least", EdgesThoughtTest::atHomeLeast);
        promises();
        Due.end("EdgesThoughtTest");
    }

    private static void promises() {
        Due.sentence("Promise 17: these FIELDS, as digits to the base of 9 (0 the highest)",
                EdgesThoughtTest::bestDigits);
        Due.sentence("Promise 17: BAD", EdgesThoughtTest::bestBad);
        Due.sentence("Promise 17: NONE: nobody, more than 5, or there is no way", EdgesThoughtTest::bestNone);
        Due.sentence("Promise 18: n (0 .. 100)", EdgesThoughtTest::behindEnds);
        Due.sentence("Promise 18: BAD", EdgesThoughtTest::behindBad);
        Due.sentence("Promise 19: n (0 .. 100)", EdgesThoughtTest::hasEnds);
        Due.sentence("Promise 19: BAD", EdgesThoughtTest::hasBad);
        Due.sentence("Promise 20: m (0 .. 9); BAD", EdgesThoughtTest::rotaBad);
        Due.sentence("Promise 20: NONE: not by then", EdgesThoughtTest::rotaNone);
        Due.sentence("Promise 21: n (1 .. 60)", EdgesThoughtTest::soldEnds);
        Due.sentence("Promise 21: BAD", EdgesThoughtTest::soldBad);
        Due.sentence("Promise 22: n (1 .. 60)", EdgesThoughtTest::nobodysEnds);
        Due.sentence("Promise 22: BAD", EdgesThoughtTest::nobodysBad);
        Due.sentence("Promise 23: n (1 .. 60)", EdgesThoughtTest::besideEnds);
        Due.sentence("Promise 23: BAD", EdgesThoughtTest::besideBad);
        Due.sentence("Promise 23: NONE: no two do", EdgesThoughtTest::besideNone);
        Due.sentence("Promise 24: n (0 .. 60)", EdgesThoughtTest::atHomeEnds);
        Due.sentence("Promise 24: BAD", EdgesThoughtTest::atHomeBad);
        Due.sentence("Promise 24: NOTHING", EdgesThoughtTest::atHomeNothing);
        Due.sentence("Promise 24: NONE: there is nobody", EdgesThoughtTest::atHomeNone);
    }

    private static NoonFields onlyRoom(NoonFields x, int... fields) {
        Made.rooms(x, 0);
        for (int f : fields) {
            x.lays(f, 2, 1);
        }
        return x;
    }

    private static void best(String what, NoonFields x, int walk, int fields) {
        Due.is(what + ": WALK", x.best(0), walk);
        Due.is(what + ": FIELDS", x.best(1), fields);
    }

    // ---- BEST PLACING

    private static void bestMay() {
        NoonFields x = Made.neighbours(1, 0);
        x.lays(0, 0, 0);
        best("its own left out", x, 20, 1);
        x.turns(0, 5);
        best("a HERMIT on its own", x, 0, 0);
        x.turns(0, 4);
        best("a CHILD on another", x, 7, 1);
        x.lays(0, 1, 0);
        best("a CHILD on its own", x, 0, 0);
        x.turns(0, 3);
        onlyRoom(x, 7, 8, 5);
        best("an OLD one far off", x, Due.NONE, Due.NONE);
        x.lays(6, 2, 1);
        best("an OLD one FAR 2", x, 65, 6);
    }

    private static void bestRoom() {
        for (int room = 1; room <= 4; room++) {
            NoonFields x = Made.neighbours(4, 0);
            Made.rooms(x, 0);
            x.lays(0, 2, room);
            x.lays(8, 2, 4);
            int far = 4 - room;
            int due = 0;
            for (int k = 0; k < far; k++) {
                due = due * 9 + 8;
            }
            // Those with the lesser numbers stay, so that the digits are least.
            best("ROOM " + room, x, 10 * room + 50 * far, due);
        }
        Due.is("no ROOM", onlyRoom(Made.neighbours(1, 0)).best(0), Due.NONE);
        NoonFields y = onlyRoom(Made.neighbours(2, 0), 4);
        Due.is("ROOM for one of two", y.best(0), Due.NONE);
    }

    private static void bestTalk() {
        NoonFields x = Made.neighbours(3, 0);
        Made.rooms(x, 0);
        x.lays(0, 2, 4);
        best("all on one", x, 30, 0);
        x.talk(2, 0, 1);
        best("no way", x, Due.NONE, Due.NONE);
        x.lays(8, 2, 1);
        best("one of the two far off", x, 10 + 10 + 50, 8);
        x.talk(0, 1, 1);
        best("TALK of 0 with both", x, 10 + 10 + 50, 8 * 81);
    }

    private static void bestLeast() {
        NoonFields x = Made.neighbours(2, 0);
        x.lays(0, 2, 2);
        best("CORN as it is", x, 20, 0);
        NoonFields y = onlyRoom(Made.neighbours(2, 0), 0, 1, 8);
        y.lays(1, 0, 1);
        best("0 makes way", y, 20 + 10, 9);
        NoonFields z = Made.neighbours(5, 0);
        Due.text(z, "walk 999", 0);
        for (int one = 0; one < 5; one++) {
            z.turns(one, 3);
        }
        best("the most WALK", z, 5 * 2003, 1 * 729 + 2 * 81 + 3 * 9 + 4);
    }

    private static void bestFirst() {
        NoonFields x = new NoonFields();
        for (int k = 0; k < 5; k++) {
            x.person(5, 0, 0);
        }
        best("HERMITS", x, 0, 1 * 729 + 2 * 81 + 3 * 9 + 4);
        onlyRoom(x, 8, 7, 6, 5, 4);
        best("HERMITS on the last five", x, 0, 4 * 6561 + 5 * 729 + 6 * 81 + 7 * 9 + 8);
        NoonFields y = onlyRoom(Made.neighbours(2, 4), 1, 3);
        best("of two ways the first", y, 40, 9 + 3);
        NoonFields z = onlyRoom(Made.neighbours(3, 4), 1, 3, 5, 7);
        best("of many ways the first", z, 60, 81 + 3 * 9 + 5);
    }

    private static void bestDigits() {
        for (int many = 1; many <= 5; many++) {
            NoonFields x = new NoonFields();
            int due = 0;
            for (int k = 0; k < many; k++) {
                x.person(5, 0, 0);
                due = due * 9 + (k == 0 && many == 5 ? 7 : 8);
            }
            Made.rooms(x, 0);
            x.lays(8, 2, 4);
            x.lays(7, 2, many == 5 ? 1 : 0);
            best(many + " on the last ones", x, 0, due);
        }
        for (int f = 0; f < 9; f++) {
            best("one on " + f, onlyRoom(Made.neighbours(1, f), f), 10, f);
        }
    }

    private static void bestBad() {
        Due.only(Made::busy, "best", 0, 1, (x, v) -> x.best(v));
        Due.only(NoonFields::new, "best of nobody", 0, 1, (x, v) -> x.best(v));
    }

    private static void bestNone() {
        for (int what = 0; what < 2; what++) {
            int of = what;
            Due.is("nobody", new NoonFields().best(what), Due.NONE);
            for (int many = 1; many <= 8; many++) {
                Due.is(many + " of them", Made.neighbours(many, 4).best(what) == Due.NONE ? 1 : 0, many > 5 ? 1 : 0);
            }
            Due.refused(() -> Made.neighbours(6, 0), "more than 5", Due.NONE, x -> x.best(of));
            Due.refused(() -> onlyRoom(Made.busy(), 0, 1, 2), "no way", Due.NONE, x -> x.best(of));
            Due.refused(() -> onlyRoom(Made.busy()), "no way at all", Due.NONE, x -> x.best(of));
        }
    }

    // ---- only thought

    private static void thinks(String call, ToIntFunction<NoonFields> of) {
        NoonFields x = Made.busy();
        int first = of.applyAsInt(x);
        Due.is(call + " again", of.applyAsInt(x), first);
        Due.refused(Made::busy, call, first, of);
    }

    private static void nothingChanges() {
        for (int what = 0; what < 2; what++) {
            int of = what;
            thinks("best", x -> x.best(of));
            thinks("has", x -> x.has(1, 100, of));
            thinks("nobodys", x -> x.nobodys(60, of));
            thinks("beside", x -> x.beside(60, of));
            thinks("atHome", x -> x.atHome(1, 60, of));
        }
        for (int what = 0; what < 4; what++) {
            int of = what;
            thinks("behind", x -> x.behind(100, of));
        }
        for (int m = 0; m < 10; m++) {
            int of = m;
            thinks("rota", x -> x.rota(of));
        }
        thinks("sold", x -> x.sold(8, 1, 60));
        thinks("toll", x -> x.toll());
        thinks("fine", x -> x.fine(3));
        NoonFields x = Made.neighbours(1, 4);
        x.late(1);
        x.seed(61);
        Due.is("the draw from z as it is", x.behind(1, 3), 1);
        x.seed(190);
        Due.is("the draw from another z", x.behind(1, 3), 0);
        x.noons(1);
        Due.is("z as it was", x.year(3), 0);
    }

    private static int think(NoonFields x, int which) {
        switch (which) {
            case 0: return x.best(0);
            case 1: return x.best(1);
            case 2: return x.behind(7, 0);
            case 3: return x.behind(9, 2);
            case 4: return x.has(2, 30, 1);
            case 5: return x.rota(2);
            case 6: return x.sold(8, 1, 20);
            case 7: return x.nobodys(20, 1);
            case 8: return x.beside(20, 1);
            case 9: return x.atHome(1, 20, 1);
            case 10: return x.check(2);
            default: return x.noons(10) + x.year(0);
        }
    }

    private static void noThoughtChangesAnother(Supplier<NoonFields> made) {
        for (int second = 0; second < 12; second++) {
            int due = think(made.get(), second);
            for (int first = 0; first < 10; first++) {
                NoonFields x = made.get();
                think(x, first);
                Due.is("thought " + second + " behind thought " + first, think(x, second), due);
            }
        }
    }

    private static void noThoughtChangesAnother() {
        noThoughtChangesAnother(Made::busy);
        for (int many = 2; many <= 5; many++) {
            int of = many;
            noThoughtChangesAnother(() -> Made.neighbours(of, 0));
        }
        NoonFields x = Made.neighbours(2, 0);
        Due.is("1 is on 0 at the second NOON", x.has(1, 2, 1), 3);
        Due.is("that does not keep 0 from it", x.best(1), 1);
    }

    /** One that comes at THE NOON 9999, and those beside it. */
    private static NoonFields atTheEnd(int many) {
        NoonFields x = new NoonFields();
        x.late(0);
        Made.noonsUpTo(x, 9999);
        for (int k = 0; k < many; k++) {
            x.person(0, 0, 0);
        }
        return x;
    }

    private static void withoutBound() {
        NoonFields x = atTheEnd(1);
        Due.is("noons", x.noons(5), 0);
        Due.is("behind", x.behind(3, 0), 10 + 9 + 8);
        Due.is("behind 100", x.behind(100, 2), 80);
        Due.is("has", x.has(0, 1, 1), 1);
        Due.is("rota", x.rota(1), 1);
        Due.is("sold", x.sold(0, 0, 2), 20 + 19 - 10 - 9);
        Due.is("nobodys", x.nobodys(2, 1), 10 + 9);
        x.sheet(0, 0, 9);
        Due.is("atHome", x.atHome(0, 2, 1), 90);
        NoonFields y = atTheEnd(2);
        y.lays(0, 2, 2);
        Due.is("beside", y.beside(2, 1), 2);
        y.sheet(0, 0, 1);
        Due.is("atHome of two", y.atHome(0, 2, 1), 8);
        onlyRoom(y, 0);
        Due.is("1 begins behind 9999", y.has(1, 1, 1), 1);
        Due.is("then 0", y.has(0, 1, 1), 0);
        Due.is("then 0", y.has(0, 2, 1), 1);
        Due.is("THE NOON", y.count(1), 9999);
    }

    // ---- BEHIND, HOURS, HAD

    private static void behindSoFar() {
        NoonFields x = onlyRoom(Made.neighbours(2, 4), 4);
        x.late(100);
        x.noons(2);
        int[] sofar = {10 + 9, 2, 88, 2};
        int[] later = {10 + 9 + 8 + 7, 4, 86, 4};
        for (int what = 0; what < 4; what++) {
            Due.is("behind 0 " + what, x.behind(0, what), sofar[what]);
            Due.is("behind 2 " + what, x.behind(2, what), later[what]);
        }
    }

    private static void behindEnds() {
        for (int n : new int[] {0, 1, 2, 99, 100}) {
            NoonFields x = Made.busy();
            NoonFields y = Made.busy();
            if (n > 0) {
                y.noons(n);
            }
            for (int what = 0; what < 4; what++) {
                Due.is("behind " + n + ", " + what, x.behind(n, what), y.year(what));
            }
        }
    }

    private static void behindBad() {
        Due.only(Made::busy, "behind n", 0, 100, (x, v) -> x.behind(v, 0));
        Due.only(Made::busy, "behind what", 0, 3, (x, v) -> x.behind(0, v));
    }

    private static void hasEnds() {
        for (int n : new int[] {0, 1, 2, 99, 100}) {
            NoonFields x = Made.busy();
            NoonFields y = Made.busy();
            if (n > 0) {
                y.noons(n);
            }
            for (int one = 0; one < 4; one++) {
                Due.is("HOURS behind " + n, x.has(one, n, 0), y.told(one, 4));
                Due.is("HAD behind " + n, x.has(one, n, 1), y.told(one, 3));
            }
        }
        NoonFields z = Made.neighbours(2, 0);
        z.lays(0, 0, 1);
        Due.is("HOURS behind 0", z.has(1, 0, 0), 0);
        Due.is("HAD behind 0", z.has(0, 0, 1), 0);
        Due.is("HOURS behind 100", z.has(1, 100, 0), 100);
        Due.is("HAD behind 1", z.has(0, 1, 1), 1);
    }

    private static void hasBad() {
        Due.only(Made::busy, "has one", 0, 3, (x, v) -> x.has(v, 0, 0));
        Due.only(Made::busy, "has n", 0, 100, (x, v) -> x.has(0, v, 0));
        Due.only(Made::busy, "has what", 0, 1, (x, v) -> x.has(0, 0, v));
    }

    // ---- ROTA

    /** One treads FIELD 0 till it has no CORN, and FIELD 1 the noon behind that. */
    private static NoonFields treads(int corn) {
        NoonFields x = onlyRoom(Made.neighbours(1, 0), 0, 1);
        x.lays(0, 1, corn);
        x.lays(1, 1, 1);
        Due.text(x, "walk (c=0)*3+d", 0);
        return x;
    }

    private static void rotaEnds() {
        Due.is("behind 99", treads(98).rota(2), 99);
        Due.is("behind 100", treads(99).rota(2), 100);
        NoonFields x = treads(99);
        x.noons(1);
        Due.is("behind 99 more", x.rota(2), 99);
        Due.is("behind 0", x.rota(1), 0);
        Due.is("0 FIELDS behind 0", treads(99).rota(0), 0);
    }

    /** FIELD 0 till it has no CORN, FIELD 1 the noon behind that, FIELD 2 the next. */
    private static NoonFields treadsThree(int corn) {
        NoonFields x = onlyRoom(Made.neighbours(1, 0), 0, 1, 2);
        x.lays(0, 1, corn);
        x.lays(1, 1, 1);
        Due.text(x, "walk (d<2)*(c=0)*3+d", 0);
        return x;
    }

    private static void rotaNone() {
        Due.is("behind 100", treadsThree(98).rota(3), 100);
        Due.is("behind 101", treadsThree(99).rota(3), Due.NONE);
        NoonFields x = treadsThree(99);
        x.noons(1);
        Due.is("behind 100 more", x.rota(3), 100);
        NoonFields y = onlyRoom(Made.neighbours(1, 0), 0, 1);
        Due.text(y, "walk d", 0);
        Due.is("one FIELD", y.rota(1), 1);
        Due.is("never two", y.rota(2), Due.NONE);
        NoonFields z = onlyRoom(Made.neighbours(1, 0));
        Due.is("LEFT ever", z.rota(1), Due.NONE);
        Due.is("0 of them", z.rota(0), 0);
        Due.refused(() -> onlyRoom(Made.busy(), 4), "not by then", Due.NONE, v -> v.rota(9));
    }

    private static void rotaFirst() {
        NoonFields x = Made.neighbours(1, 0);
        Due.text(x, "walk h", 0);
        for (int m = 0; m <= 9; m++) {
            Due.is("ROTA of " + m, x.rota(m), m);
        }
        x.noons(4);
        for (int m = 0; m <= 9; m++) {
            Due.is("ROTA of " + m + " behind 4", x.rota(m), Math.max(0, m - 4));
        }
        x.person(0, 0, 0);
        Due.is("ROTA of 1 with a new one", x.rota(1), 1);
        Due.is("ROTA of 5, for the slower of two", x.rota(5), 5);
        Due.is("ROTA of 9, for the slower of two", x.rota(9), 9);
    }

    private static void rotaNobody() {
        for (int m = 0; m <= 9; m++) {
            Due.is("ROTA of " + m, new NoonFields().rota(m), 0);
        }
        Due.is("BAD with nobody", new NoonFields().rota(10), Due.BAD);
    }

    private static void rotaBad() {
        Due.only(Made::busy, "rota", 0, 9, (x, v) -> x.rota(v));
    }

    // ---- SOLD, NOBODY'S

    private static void soldLess() {
        NoonFields x = Made.neighbours(2, 0);
        x.set(1, 1, 8);
        x.lays(0, 0, 0);
        x.noons(2);
        // 0 goes 20 - 2 = 18 on FIELD 1; on FIELD 0 it would go 10.
        Due.is("from 0 to 1", x.sold(0, 1, 1), 10 - 18);
        Due.is("to whom it is", x.sold(0, 0, 1), 0);
        Due.is("where nobody goes", x.sold(4, 0, 60), 0);
        Due.is("where 1 goes, to 1", x.sold(8, 1, 1), 20 - 8);
        Due.is("where 1 goes, to 0", x.sold(8, 0, 1), 0);
    }

    private static void soldEnds() {
        NoonFields x = Made.neighbours(1, 0);
        onlyRoom(x, 0, 1);
        Due.is("for 1", x.sold(0, 0, 1), 10);
        Due.is("for 2", x.sold(0, 0, 2), 20);
        // Behind 10 noons there is no CORN on the one; on the other there is none behind 10 either.
        Due.is("for 59", x.sold(0, 0, 59), 59 * 10);
        Due.is("for 60", x.sold(0, 0, 60), 60 * 10);
    }

    private static void soldBad() {
        Due.only(Made::busy, "sold field", 0, 8, (x, v) -> x.sold(v, 0, 1));
        Due.only(Made::busy, "sold one", 0, 3, (x, v) -> x.sold(0, v, 1));
        Due.only(Made::busy, "sold n", 1, 60, (x, v) -> x.sold(0, 0, v));
        Due.is("sold to nobody", new NoonFields().sold(0, 0, 1), Due.BAD);
    }

    /** Without FIELD 1 one is LEFT, which counts 100; on it it goes c, c + 1, c + 2 at CORN 99. */
    private static void nobodysSum() {
        int[] field = {1, 0, 0};
        int[] sum = {99, 100, 100};
        for (int more = 0; more < 3; more++) {
            NoonFields x = onlyRoom(Made.neighbours(1, 0), 1);
            for (int f = 0; f < 9; f++) {
                x.lays(f, 0, 0);
            }
            x.lays(1, 1, 99);
            Due.text(x, "walk c+" + more, 0);
            Due.is("the FIELD", x.nobodys(1, 0), field[more]);
            Due.is("the sum", x.nobodys(1, 1), sum[more]);
        }
    }

    private static void nobodysSoFar() {
        NoonFields x = Made.neighbours(1, 0);
        x.noons(1);
        onlyRoom(x);
        x.noons(1);
        x.lays(0, 2, 1);
        Due.is("STEPS and LEFT so far", x.nobodys(1, 1), 10 + 100 + 9);
        x.lays(0, 0, 0);
        Due.is("so far, and if it were nobody's", x.nobodys(2, 1), 10 + 100 + 9 + 8);
        Due.is("which", x.nobodys(2, 0), 0);
    }

    private static void nobodysLeast() {
        NoonFields x = Made.neighbours(1, 4);
        Due.is("all are nobody's", x.nobodys(1, 0), 0);
        for (int f = 0; f < 9; f++) {
            x.lays(f, 0, 0);
        }
        x.lays(4, 1, 20);
        x.lays(8, 1, 0);
        Due.is("of 1, 3, 4, 5, 7, 8, all at 20", x.nobodys(1, 0), 1);
        Due.is("of them the sum", x.nobodys(1, 1), 20);
        x.lays(8, 1, 99);
        x.lays(7, 1, 9);
        Due.is("7 alone", x.nobodys(1, 0), 7);
        x.lays(8, 1, 0);
        x.set(0, 1, 8);
        Due.is("8, the last", x.nobodys(1, 0), 8);
        // 0 would go on its own FIELD 0, if it were nobody's, and 1, who may not stand on 3, far off.
        NoonFields z = onlyRoom(Made.neighbours(2, 0), 0, 3, 8);
        z.lays(0, 0, 0);
        z.lays(3, 0, 1);
        Due.is("1, which is nobody's as it is", z.nobodys(1, 0), 1);
        Due.is("STEPS as it is", z.nobodys(1, 1), 20 + 10);
        NoonFields y = new NoonFields();
        Due.is("with nobody", y.nobodys(1, 0), 0);
        Due.is("with nobody the sum", y.nobodys(60, 1), 0);
    }

    private static void nobodysEnds() {
        NoonFields x = onlyRoom(Made.neighbours(1, 0));
        for (int n : new int[] {1, 2, 59, 60}) {
            Due.is("for " + n, x.nobodys(n, 1), 100 * n);
        }
    }

    private static void nobodysBad() {
        Due.only(Made::busy, "nobodys n", 1, 60, (x, v) -> x.nobodys(v, 0));
        Due.only(Made::busy, "nobodys what", 0, 1, (x, v) -> x.nobodys(1, v));
    }

    // ---- BESIDE

    /** Two of three find room: 0 and 1, then 1 and 2, then 2 and 0, and so on. */
    private static void besideMost() {
        int[] who = {1, 12, 2};
        for (int noon = 0; noon < 3; noon++) {
            NoonFields x = onlyRoom(Made.neighbours(3, 4));
            Made.noonsUpTo(x, noon);
            x.lays(4, 2, 2);
            Due.is("in 1 of 1 from NOON " + noon, x.beside(1, 0), who[noon]);
            Due.is("all three once in 3", x.beside(3, 0), 1);
            Due.is("all three once in 3", x.beside(3, 1), 1);
            Due.is("in 2 of 4 from NOON " + noon, x.beside(4, 0), who[noon]);
            Due.is("2 of 4", x.beside(4, 1), 2);
        }
        NoonFields y = Made.neighbours(4, 0);
        y.lays(0, 2, 3);
        y.talk(0, 1, 1);
        // 0 with 2 and 3, 1 alone; then 1 with 2 and 3, 0 alone; 2 and 3 ever.
        Due.is("one who stood with one of two", y.beside(1, 0), 2);
        Due.is("those who stand together in both", y.beside(2, 0), 23);
        Due.is("in both", y.beside(2, 1), 2);
    }

    private static void besideLesser() {
        NoonFields x = Made.neighbours(8, 0);
        Made.rooms(x, 0);
        x.lays(0, 2, 4);
        x.lays(8, 2, 4);
        Due.is("0 to 3 on one, 4 to 7 on one", x.beside(1, 0), 1);
        x.talk(0, 1, 1);
        x.lays(0, 2, 2);
        x.lays(8, 2, 0);
        Due.is("0 and 2", x.beside(1, 0), 2);
        NoonFields y = Made.neighbours(7, 0);
        y.noons(7);
        y.person(0, 0, 0);
        onlyRoom(y);
        y.lays(0, 2, 2);
        Due.is("7 and 0 begin: the lesser one first", y.beside(1, 0), 7);
        NoonFields z = Made.neighbours(8, 0);
        z.noons(6);
        onlyRoom(z);
        z.lays(0, 2, 2);
        Due.is("6 and 7", z.beside(1, 0), 67);
        Due.is("6 and 7, then 7 and 0: the lesser numbers", z.beside(2, 0), 7);
        z.lays(0, 2, 3);
        Due.is("6, 7 and 0: 0 and 6", z.beside(1, 0), 6);
    }

    private static void besideEnds() {
        NoonFields x = Made.neighbours(2, 0);
        x.lays(0, 2, 2);
        for (int n : new int[] {1, 2, 59, 60}) {
            Due.is("for " + n, x.beside(n, 1), n);
            Due.is("who", x.beside(n, 0), 1);
        }
    }

    private static void besideBad() {
        Due.only(Made::busy, "beside n", 1, 60, (x, v) -> x.beside(v, 0));
        Due.only(Made::busy, "beside what", 0, 1, (x, v) -> x.beside(1, v));
        Due.refused(NoonFields::new, "BAD ahead of NONE", Due.BAD, x -> x.beside(0, 0));
        Due.refused(NoonFields::new, "BAD ahead of NONE", Due.BAD, x -> x.beside(1, 2));
    }

    private static void besideNone() {
        for (int what = 0; what < 2; what++) {
            int of = what;
            Due.is("nobody", new NoonFields().beside(60, what), Due.NONE);
            Due.is("one", Made.neighbours(1, 0).beside(60, what), Due.NONE);
            Due.is("each on its own", Made.neighbours(8, 4).beside(60, what), Due.NONE);
            Due.refused(() -> onlyRoom(Made.busy()), "all LEFT", Due.NONE, x -> x.beside(60, of));
            Due.is("all but one LEFT", onlyRoom(Made.neighbours(8, 4), 4).beside(60, what), Due.NONE);
        }
    }

    // ---- AT HOME

    private static void sheet(NoonFields x, int sheet, int... of) {
        x.sheet(sheet, 1, of.length);
        for (int k = 0; k < of.length; k++) {
            x.mark(sheet, k, of[k]);
        }
    }

    private static void atHome(String what, NoonFields x, int n, int who, int differences) {
        Due.is(what + ": who", x.atHome(0, n, 0), who);
        Due.is(what + ": differences", x.atHome(0, n, 1), differences);
    }

    private static void atHomeNowhere() {
        // 0 stood on FIELD 0, and 1 on FIELD 2, as 0 was there; without 0 it goes on 0, without 1 0 goes on 8.
        NoonFields x = onlyRoom(Made.neighbours(2, 0), 0, 2);
        x.set(1, 1, 1);
        x.noons(1);
        Due.is("where 1 stood", x.told(1, 3), 4);
        x.lays(8, 2, 1);
        x.set(0, 1, 8);
        x.lays(0, 1, 9);
        sheet(x, 0, 8, 10, 9, 10, 10, 10, 10, 10, 10);
        atHome("without 0", x, 1, 0, 0);
        sheet(x, 0, 9, 10, 9, 10, 10, 10, 10, 10, 9);
        atHome("without 1", x, 1, 1, 0);
        NoonFields y = Made.neighbours(1, 0);
        sheet(y, 0, 10, 10, 10, 10, 10, 10, 10, 10, 10);
        atHome("the only one treads nothing", y, 60, 0, 0);
    }

    /** At THE NOON 1 of three 1 begins, also without 2: it goes on 0, and 0 on 2. */
    private static void atHomeBegins() {
        NoonFields x = new NoonFields();
        x.noons(1);
        x.person(0, 0, 0);
        x.person(0, 0, 0);
        x.person(0, 8, 0);
        x.turns(0, 1);
        onlyRoom(x, 0, 8);
        Due.text(x, "walk (d=4)*900+d", 0);
        x.lays(8, 0, 0);
        // 0 may not stand on 8: where 1 is first, 0 is LEFT; where 0 is first, 1 goes on 8.
        sheet(x, 0, 9, 10, 10, 10, 10, 10, 10, 10, 10);
        atHome("without 2 1 begins", x, 1, 2, 0);
        NoonFields y = new NoonFields();
        y.noons(2);
        y.person(0, 0, 0);
        y.person(0, 0, 0);
        y.person(0, 8, 0);
        onlyRoom(y, 0, 8);
        y.lays(8, 0, 1);
        // 2 would begin; without it 0 is the next, and 1 may not stand on 8.
        sheet(y, 0, 9, 10, 10, 10, 10, 10, 10, 10, 10);
        atHome("without 2, who begins, 0 is next", y, 1, 2, 0);
        for (int noon = 0; noon < 9; noon++) {
            atHomeBeginsAt(noon);
        }
    }

    /** Who goes first of three goes on 4, without CORN; 0 else on 0, 1 on 6, 2 on 8. */
    private static void atHomeBeginsAt(int noon) {
        NoonFields x = new NoonFields();
        Made.noonsUpTo(x, noon);
        x.person(0, 1, 0);
        x.person(0, 3, 0);
        x.person(0, 5, 0);
        onlyRoom(x, 0, 4, 6, 8);
        x.lays(4, 1, 0);
        x.lays(6, 1, 5);
        int[] on = {0, 6, 8};
        int first = noon % 3;
        for (int one = 0; one < 3; one++) {
            // With one AT HOME two go; of them it is not the first, from the one with that number on, round.
            int who = one == first ? (first + 1) % 3 : first;
            int other = 3 - one - who;
            int least = one;
            for (int k = 0; k < one; k++) {
                int w = k == first ? (first + 1) % 3 : first;
                least = 3 - k - w == other ? Math.min(least, k) : least;
            }
            sheet(x, 0, 10, 10, 10, 10, 0, 10, 5, 10, 10);
            x.mark(0, on[other], on[other] == 6 ? 4 : 9);
            atHome("at NOON " + noon + " without " + one, x, 1, least, 0);
        }
    }

    private static void atHomeDiffer() {
        NoonFields x = Made.neighbours(2, 0);
        x.set(1, 1, 8);
        sheet(x, 0, 7, 20, 0, -5, 10, 10, 10, 10, 13);
        // Without 1 CORN of 0 is 7; without 0 CORN of 8 is 7.
        atHome("less and more count alike", x, 3, 1, 10 + 10 + 15 + 3);
        x.mark(0, 3, Due.NONE);
        atHome("NO NUMBER is left out", x, 3, 1, 10 + 10 + 3);
        x.mark(0, 0, Due.NONE);
        atHome("NO NUMBER at 0", x, 3, 1, 10 + 10 + 3);
        x.mark(0, 8, Due.NONE);
        atHome("NO NUMBER at both", x, 3, 0, 20);
        sheet(x, 0, 10, 10, 10, 10, 10, 10, 10, 10);
        atHome("FIELDS without a place are left out", x, 3, 0, 0);
        sheet(x, 0, -99999, 99999);
        atHome("the most", x, 0, 0, 99999 + 10 + 99999 - 10);
        x.sheet(0, 0, 1);
        x.mark(0, 0, -32768);
        atHome("shorts", x, 1, 1, 32768 + 9);
    }

    private static void atHomeBeyond() {
        NoonFields x = Made.neighbours(2, 0);
        x.sheet(0, 1, 24);
        for (int k = 0; k < 9; k++) {
            x.mark(0, k, k == 0 ? 9 : 10);
        }
        atHome("all as CORN, 0 beyond", x, 1, 0, 0);
        x.mark(0, 9, 1);
        x.mark(0, 23, -7);
        atHome("beyond, signs left out", x, 1, 0, 8);
        x.mark(0, 9, Due.NONE);
        atHome("beyond, NO NUMBER", x, 1, 0, 7);
        for (int k = 0; k < 24; k++) {
            x.mark(0, k, -99999);
        }
        atHome("the most", x, 0, 0, 24 * 99999 + 90);
    }

    private static void atHomeLeast() {
        NoonFields x = Made.neighbours(3, 0);
        x.lays(0, 2, 4);
        sheet(x, 0, 8);
        atHome("any of three", x, 1, 0, 0);
        x.set(0, 1, 8);
        atHome("1 or 2 of three", x, 1, 0, 0);
        sheet(x, 0, 9);
        atHome("1 or 2, the least", x, 1, 1, 0);
        x.sheet(0, 0, 0);
        atHome("no places", x, 60, 0, 0);
        NoonFields y = Made.neighbours(8, 0);
        y.set(7, 1, 8);
        y.lays(0, 2, 4);
        sheet(y, 0, Due.NONE, Due.NONE, Due.NONE, Due.NONE, Due.NONE, Due.NONE, Due.NONE, Due.NONE, 10);
        atHome("the last of eight", y, 1, 7, 0);
    }

    private static void atHomeEnds() {
        NoonFields x = onlyRoom(Made.neighbours(2, 0), 0);
        x.lays(0, 1, 99);
        sheet(x, 0, 0);
        for (int n : new int[] {0, 1, 2, 59, 60}) {
            atHome("behind " + n, x, n, 0, 99 - n);
        }
    }

    private static void atHomeBad() {
        Due.only(Made::busy, "atHome sheet", 0, 3, (x, v) -> x.atHome(v, 0, 0));
        Due.only(Made::busy, "atHome n", 0, 60, (x, v) -> x.atHome(0, v, 0));
        Due.only(Made::busy, "atHome what", 0, 1, (x, v) -> x.atHome(0, 0, v));
        Due.refused(Made::busy, "BAD ahead of NOTHING", Due.BAD, x -> x.atHome(2, 61, 0));
        Due.refused(Made::busy, "BAD ahead of NOTHING", Due.BAD, x -> x.atHome(2, 0, 2));
        Due.refused(NoonFields::new, "BAD ahead of NONE", Due.BAD, x -> x.atHome(4, 0, 0));
    }

    private static void atHomeNothing() {
        Due.refused(Made::busy, "MISSING", Due.NOTHING, x -> x.atHome(2, 0, 0));
        Due.refused(Made::busy, "MISSING", Due.NOTHING, x -> x.atHome(3, 60, 1));
        Due.refused(NoonFields::new, "NOTHING ahead of NONE", Due.NOTHING, x -> x.atHome(0, 0, 0));
    }

    private static void atHomeNone() {
        NoonFields x = new NoonFields();
        x.sheet(0, 1, 3);
        x.sheet(1, 0, 0);
        for (int what = 0; what < 2; what++) {
            Due.is("nobody", x.atHome(0, 0, what), Due.NONE);
            Due.is("nobody, no places", x.atHome(1, 60, what), Due.NONE);
        }
    }
}
