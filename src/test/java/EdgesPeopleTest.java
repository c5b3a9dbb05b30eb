/** The sentences of the document that name a boundary case: Terms 1, draws, promises 1 to 14; a test for each. */
final class EdgesPeopleTest {
    private static final int LOW = Integer.MIN_VALUE, HIGH = Integer.MAX_VALUE;

    public static void main(String[] args) {
        Due.sentence("Terms: sets of FIELDS are told as bits (bit k for number k)", EdgesPeopleTest::bits);
        Due.sentence("1: FIELDS are 0 .. 8, three in a row", EdgesPeopleTest::fields);
        Due.sentence("1: OWNER (0 .. 7, perhaps none of PEOPLE; or 8: nobody's; 8 at first)", EdgesPeopleTest::owner);
        Due.sentence("1: CORN 0 .. 99 (10 at first)", () -> numberOfFields(1, 99, 10));
        Due.sentence("1: ROOM 0 .. 4 (1 at first)", () -> numberOfFields(2, 4, 1));
        Due.sentence("1: FAR: by how much rows and places differ, together", EdgesPeopleTest::farOfTwo);
        Due.sentence("1: PEOPLE, 8 at most, numbered from 0", EdgesPeopleTest::people);
        Due.sentence("1: HOME (a FIELD, whoever owns it)", EdgesPeopleTest::home);
        Due.sentence("1: HIRE 0 .. 99", EdgesPeopleTest::hire);
        Due.sentence("1: HAD (none at first), HOURS, CAUGHT (0 each at first)", EdgesPeopleTest::atFirst);
        Due.sentence("1: KINDS under one another (all are NEIGHBOURS)", EdgesPeopleTest::kinds);
        Due.sentence("1: TALK of two: there is or not (not at first)", EdgesPeopleTest::talkAtFirst);
        Due.sentence("1: LATE is 0 .. 100 (10 at first)", EdgesPeopleTest::lateFromTo);
        Due.sentence("1: STEPS, LEFT are 0 at first; THE NOON is 0 at first", EdgesPeopleTest::countsAtFirst);
        Due.sentence("1: THE NOON, 9999 at most", EdgesPeopleTest::lastNoon);
        walks();
        Due.sentence("1: MAY stand", EdgesPeopleTest::mayStand);
        Due.sentence("1: WORTH", EdgesPeopleTest::worth);
        Due.sentence("2: z is told (1 at first)", EdgesPeopleTest::zAtFirst);
        Due.sentence("2: z * 1103515245 + 12345 (an int); z >>> 8", EdgesPeopleTest::zWraps);
        Due.sentence("2: KIND the rest by 6, HOME by 9, HIRE by 60", EdgesPeopleTest::drawn);
        promises();
        Due.end("EdgesPeopleTest");
    }

    private static void walks() {
        Due.sentence("1: WALK: what walk gives, held within 0 .. 999", EdgesPeopleTest::walkHeld);
        Due.sentence("1: WALK without a TEXT: 10 times FAR, and CORN", EdgesPeopleTest::walkWithout);
        Due.sentence("1: WALK: LAME twice, OLD as LAME, and 5", EdgesPeopleTest::walkTwice);
        Due.sentence("1: WALK: RUNNER half (cut), CHILD less 3 (0 at least)", EdgesPeopleTest::walkHalf);
        Due.sentence("1: WALK: HERMIT 0", EdgesPeopleTest::walkNone);
    }

    private static void promises() {
        Due.sentence("Promise 1: as told; nobody", EdgesPeopleTest::newObject);
        Due.sentence("Promise 2: BAD", EdgesPeopleTest::personBad);
        Due.sentence("Promise 2: FULL", EdgesPeopleTest::personFull);
        Due.sentence("Promise 3: BAD", EdgesPeopleTest::toldBad);
        Due.sentence("Promise 4: whether it MAY stand there (1; 1, 0)", EdgesPeopleTest::walkMay);
        Due.sentence("Promise 4: BAD", EdgesPeopleTest::walkBad);
        Due.sentence("Promise 5: BAD: one, kind", EdgesPeopleTest::asBad);
        Due.sentence("Promise 5: KIND", EdgesPeopleTest::asKind);
        Due.sentence("Promise 6: what it was", EdgesPeopleTest::turnsWas);
        Due.sentence("Promise 6: BAD", EdgesPeopleTest::turnsBad);
        Due.sentence("Promise 7: what it was", EdgesPeopleTest::setWas);
        Due.sentence("Promise 7: BAD", EdgesPeopleTest::setBad);
        Due.sentence("Promise 8: there is (v 1) or not (0): what it was", EdgesPeopleTest::talkWas);
        Due.sentence("Promise 8: BAD: also of one with itself", EdgesPeopleTest::talkBad);
        Due.sentence("Promise 9: BAD", EdgesPeopleTest::fieldBad);
        Due.sentence("Promise 10: what it was", EdgesPeopleTest::laysWas);
        Due.sentence("Promise 10: BAD", EdgesPeopleTest::laysBad);
        Due.sentence("Promise 11: BAD", EdgesPeopleTest::farBad);
        Due.sentence("Promise 12: what it was", EdgesPeopleTest::lateWas);
        Due.sentence("Promise 12: BAD", EdgesPeopleTest::lateBad);
        Due.sentence("Promise 13: n (1 .. 8) of them; how many came", EdgesPeopleTest::dealMany);
        Due.sentence("Promise 13: as many as there is room for (no draws for others)", EdgesPeopleTest::dealRoom);
        Due.sentence("Promise 13: BAD", EdgesPeopleTest::dealBad);
        Due.sentence("Promise 14: z becomes v: what it was", EdgesPeopleTest::seedAny);
    }

    // ---- Terms

    private static void bits() {
        for (int f = 0; f < 9; f++) {
            NoonFields x = Made.neighbours(1, 4);
            Due.is("HAD of nothing", x.told(0, 3), 0);
            Made.rooms(x, 0);
            x.lays(f, 2, 1);
            x.noons(1);
            Due.is("HAD of FIELD " + f, x.told(0, 3), 1 << f);
            Due.is("HAD of it again", x.has(0, 1, 1), 1 << f);
        }
        NoonFields y = Made.neighbours(1, 0);
        Due.text(y, "walk h", 0);
        y.noons(9);
        Due.is("HAD of all", y.told(0, 3), 511);
    }

    private static void fields() {
        NoonFields x = new NoonFields();
        Due.is("the first", x.field(0, 0), 8);
        Due.is("the last", x.field(8, 0), 8);
        Due.is("none behind it", x.field(9, 0), Due.BAD);
        Due.is("none ahead", x.field(-1, 0), Due.BAD);
        Due.is("end of a row and begin of the next", x.far(2, 3), 3);
        Due.is("end of the second row and begin of the third", x.far(5, 6), 3);
        Due.is("one below the other", x.far(2, 5), 1);
    }

    private static void owner() {
        for (int f = 0; f < 9; f++) {
            Due.is("OWNER of " + f + " at first", new NoonFields().field(f, 0), 8);
        }
        for (int owner = 0; owner <= 8; owner++) {
            NoonFields x = new NoonFields();
            x.lays(3, 0, owner);
            Due.is("OWNER that is none of PEOPLE", x.field(3, 0), owner);
            x.person(0, 3, 0);
            Due.is("it owns it when it comes", x.walk(0, 3, 1), owner == 0 ? 0 : 1);
        }
        NoonFields y = Made.neighbours(1, 3);
        y.lays(3, 0, 1);
        y.noons(1);
        y.person(0, 3, 0);
        Due.is("no HOURS for one who was not there", y.told(1, 4), 0);
        Due.is("it is its own now", y.walk(1, 3, 1), 0);
        y.noons(2);
        Due.is("HOURS from then on", y.told(1, 4), 2);
    }

    private static void numberOfFields(int what, int high, int first) {
        for (int f = 0; f < 9; f++) {
            NoonFields x = new NoonFields();
            Due.is("at first", x.field(f, what), first);
            Due.is("the most", x.lays(f, what, high), first);
            Due.is("the most", x.field(f, what), high);
            Due.is("0", x.lays(f, what, 0), high);
            Due.is("0", x.field(f, what), 0);
            Due.is("too many", x.lays(f, what, high + 1), Due.BAD);
            Due.is("too few", x.lays(f, what, -1), Due.BAD);
            Due.is("as it was", x.field(f, what), 0);
        }
    }

    private static void farOfTwo() {
        int[][] due = {
            {0, 1, 2, 1, 2, 3, 2, 3, 4}, {1, 0, 1, 2, 1, 2, 3, 2, 3}, {2, 1, 0, 3, 2, 1, 4, 3, 2},
            {1, 2, 3, 0, 1, 2, 1, 2, 3}, {2, 1, 2, 1, 0, 1, 2, 1, 2}, {3, 2, 1, 2, 1, 0, 3, 2, 1},
            {2, 3, 4, 1, 2, 3, 0, 1, 2}, {3, 2, 3, 2, 1, 2, 1, 0, 1}, {4, 3, 2, 3, 2, 1, 2, 1, 0}};
        NoonFields x = new NoonFields();
        for (int one = 0; one < 9; one++) {
            for (int other = 0; other < 9; other++) {
                Due.is("far of " + one + " and " + other, x.far(one, other), due[one][other]);
            }
        }
    }

    private static void people() {
        NoonFields x = new NoonFields();
        for (int k = 0; k < 8; k++) {
            Due.is("none by that number yet", x.told(k, 0), Due.BAD);
            Due.is("its number", x.person(0, 0, k), k);
            Due.is("who it is", x.told(k, 2), k);
        }
        Due.is("the ninth", x.person(0, 0, 8), Due.FULL);
        Due.is("none by its number", x.told(8, 0), Due.BAD);
        Due.is("8 of them", x.count(0), 8);
    }

    private static void home() {
        for (int f = 0; f < 9; f++) {
            NoonFields x = new NoonFields();
            x.lays(f, 0, 1);
            Due.is("at home where another one owns", x.person(0, f, 0), 0);
            Due.is("at home where it owns", x.person(0, f, 0), 1);
            Due.is("at home where another one does not", x.set(0, 1, 8 - f), f);
            Due.is("HOME", x.told(0, 1), 8 - f);
            Due.is("HOME", x.told(1, 1), f);
            Due.is("it owns as before", x.field(f, 0), 1);
        }
    }

    private static void hire() {
        NoonFields x = new NoonFields();
        Due.is("for 0", x.person(0, 0, 0), 0);
        Due.is("for 99", x.person(0, 0, 99), 1);
        Due.is("HIRE 0", x.told(0, 2), 0);
        Due.is("HIRE 99", x.told(1, 2), 99);
        Due.is("for 100", x.person(0, 0, 100), Due.BAD);
        Due.is("for -1", x.person(0, 0, -1), Due.BAD);
    }

    private static void atFirst() {
        NoonFields x = Made.busy();
        Due.is("one more, behind noons", x.person(0, 4, 0), 4);
        x.late(100);
        x.lays(1, 0, 4);
        x.noons(20);
        Due.is("it has stood somewhere", x.told(4, 3) != 0 ? 1 : 0, 1);
        x.back();
        Due.is("one more, behind back", x.person(0, 4, 0), 4);
        for (int what = 3; what < 6; what++) {
            Due.is("told " + what + " at first", x.told(4, what), 0);
        }
        Due.is("HOURS and HAD behind 0", x.has(4, 0, 0) + x.has(4, 0, 1), 0);
        NoonFields y = new NoonFields();
        y.deal(8);
        for (int one = 0; one < 8; one++) {
            for (int what = 3; what < 6; what++) {
                Due.is("told " + what + " of one that is drawn", y.told(one, what), 0);
            }
        }
    }

    private static void kinds() {
        NoonFields x = Made.ofEachKind(0);
        boolean[][] under = {
            {true, false, false, false, false, false}, {true, true, false, false, false, false},
            {true, false, true, false, false, false}, {true, true, false, true, false, false},
            {true, false, true, false, true, false}, {true, false, false, false, false, true}};
        for (int one = 0; one < 6; one++) {
            for (int kind = 0; kind < 6; kind++) {
                Due.is(one + " as " + kind, x.as(one, kind), under[one][kind] ? 10 : Due.KIND);
            }
        }
    }

    private static void talkAtFirst() {
        NoonFields x = Made.neighbours(8, 0);
        Due.is("no two at first", x.count(3), 0);
        int two = 0;
        for (int one = 0; one < 8; one++) {
            for (int other = one + 1; other < 8; other++) {
                Due.is("TALK of " + one + " and " + other, x.talk(other, one, 1), 0);
                two++;
                Due.is("how many two", x.count(3), two);
            }
        }
        for (int one = 0; one < 8; one++) {
            for (int other = one + 1; other < 8; other++) {
                Due.is("TALK of " + one + " and " + other, x.talk(one, other, 1), 1);
            }
        }
        Due.is("all two of eight", x.count(3), 28);
        talkOfOneThatComesAnew(0, 1);
        talkOfOneThatComesAnew(1, 0);
    }

    /** 1 is gone with back, and its TALK; another one comes by its number. */
    private static void talkOfOneThatComesAnew(int one, int other) {
        NoonFields x = Made.neighbours(1, 4);
        Made.rooms(x, 0);
        x.lays(4, 2, 2);
        x.keep();
        x.person(0, 4, 0);
        x.talk(one, other, 1);
        x.back();
        x.person(0, 4, 0);
        Due.is("no two", x.count(3), 0);
        Due.is("no TALK, whoever begins", x.noons(2), 0);
        Due.is("not at first", x.talk(one, other, 1), 0);
        Due.is("from then on", x.talk(other, one, 1), 1);
    }

    private static void lateFromTo() {
        NoonFields x = new NoonFields();
        Due.is("LATE at first", x.count(2), 10);
        Due.is("100", x.late(100), 10);
        Due.is("LATE", x.count(2), 100);
        Due.is("0", x.late(0), 100);
        Due.is("LATE", x.count(2), 0);
        Due.is("101", x.late(101), Due.BAD);
        Due.is("-1", x.late(-1), Due.BAD);
        Due.is("LATE as it was", x.count(2), 0);
    }

    private static void countsAtFirst() {
        NoonFields x = new NoonFields();
        Due.is("STEPS", x.year(0), 0);
        Due.is("LEFT", x.year(1), 0);
        Due.is("THE NOON", x.count(1), 0);
    }

    private static void lastNoon() {
        NoonFields x = new NoonFields();
        Made.noonsUpTo(x, 9998);
        Due.is("noons", x.noons(1), 0);
        Due.is("THE NOON", x.count(1), 9999);
        int z = x.count(7);
        Due.is("no more noons", x.noons(1), 0);
        Due.is("THE NOON at most", x.count(1), 9999);
        Due.is("z", x.count(7), z);
    }

    // ---- WALK

    /** WALK of each KIND to its HOME, where walk gives what the text tells. */
    private static void walkBy(String text, int... due) {
        NoonFields x = Made.ofEachKind(0);
        Due.text(x, "walk " + text, 0);
        for (int one = 0; one < 6; one++) {
            Due.is("WALK of " + one + " by " + text, x.walk(one, 0, 0), due[one]);
        }
    }

    private static void walkHeld() {
        walkBy("998", 998, 1996, 499, 2001, 496, 0);
        walkBy("999", 999, 1998, 499, 2003, 496, 0);
        walkBy("1000", 999, 1998, 499, 2003, 496, 0);
        walkBy("9999*9999", 999, 1998, 499, 2003, 496, 0);
        walkBy("1024*1024*2048-1", 999, 1998, 499, 2003, 496, 0);
        walkBy("0", 0, 0, 0, 5, 0, 0);
        walkBy("0-1", 0, 0, 0, 5, 0, 0);
        walkBy("0-2000", 0, 0, 0, 5, 0, 0);
        walkBy("1024*1024*2048", 0, 0, 0, 5, 0, 0);
    }

    private static void walkWithout() {
        NoonFields x = Made.neighbours(1, 0);
        Due.is("FAR 0", x.walk(0, 0, 0), 10);
        Due.is("FAR 1", x.walk(0, 3, 0), 20);
        Due.is("FAR 4", x.walk(0, 8, 0), 50);
        x.lays(0, 1, 0);
        Due.is("FAR 0, no CORN", x.walk(0, 0, 0), 0);
        x.lays(8, 1, 99);
        Due.is("FAR 4, the most CORN", x.walk(0, 8, 0), 139);
        Due.text(x, "toll 5", 0);
        Due.text(x, "fine 6", 1);
        Due.is("TEXTS of other KEYS", x.walk(0, 8, 0), 139);
        Due.text(x, "walk 7", 2);
        Due.is("a TEXT", x.walk(0, 8, 0), 7);
    }

    private static void walkTwice() {
        walkBy("1", 1, 2, 0, 7, 0, 0);
        walkBy("500", 500, 1000, 250, 1005, 247, 0);
    }

    private static void walkHalf() {
        walkBy("5", 5, 10, 2, 15, 0, 0);
        walkBy("6", 6, 12, 3, 17, 0, 0);
        walkBy("7", 7, 14, 3, 19, 0, 0);
        walkBy("8", 8, 16, 4, 21, 1, 0);
        walkBy("9", 9, 18, 4, 23, 1, 0);
        walkBy("10", 10, 20, 5, 25, 2, 0);
    }

    private static void walkNone() {
        NoonFields x = new NoonFields();
        x.person(5, 0, 0);
        Made.corn(x, 99);
        for (int f = 0; f < 9; f++) {
            Due.is("WALK to " + f, x.walk(0, f, 0), 0);
        }
        Due.text(x, "walk 999", 0);
        Due.is("WALK by a TEXT", x.walk(0, 8, 0), 0);
    }

    // ---- MAY stand, WORTH, draws

    private static void mayStand() {
        for (int corn = 0; corn < 2; corn++) {
            for (int owner = 0; owner < 9; owner++) {
                NoonFields x = Made.ofEachKind(0);
                Made.corn(x, corn);
                for (int f = 0; f < 9; f++) {
                    x.lays(f, 0, owner);
                }
                mayStandWhere(x, owner, corn);
            }
        }
    }

    private static void mayStandWhere(NoonFields x, int owner, int corn) {
        for (int one = 0; one < 6; one++) {
            for (int f = 0; f < 9; f++) {
                boolean near = f != 5 && f != 7 && f != 8;
                boolean may = one == 5 || one == 4 && corn == 0 || owner != one && (one != 3 || near);
                Due.is(one + " on " + f + " of " + owner + " with CORN " + corn, x.walk(one, f, 1), may ? 1 : 0);
            }
        }
    }

    private static void worth() {
        int[][] due = {{0, 4, 99, 8, 93, 3}, {1, 5, 98, 10, 92, 3}, {98, 102, 1, 204, -5, 3}, {99, 103, 0, 206, -6, 3}};
        int[] hires = {0, 1, 98, 99};
        for (int k = 0; k < 4; k++) {
            NoonFields x = new NoonFields();
            for (int kind = 0; kind < 6; kind++) {
                x.person(kind, 0, hires[k]);
                Due.is("WORTH of " + kind + " for " + hires[k], x.told(kind, 6), due[k][kind]);
            }
        }
    }

    private static void zAtFirst() {
        Due.is("z", new NoonFields().count(7), 1);
        Due.is("z", new NoonFields().seed(7), 1);
    }

    /** z behind one draw, worked out by hand. */
    private static void zWraps() {
        int[] from = {0, 1, -1, LOW, HIGH};
        int[] to = {12345, 1103527590, -1103502900, -2147471303, 1043980748};
        int[] rests = {48, 54, 57, 56, 49};
        for (int k = 0; k < from.length; k++) {
            for (int late = rests[k]; late <= rests[k] + 1; late++) {
                NoonFields x = new NoonFields();
                x.seed(from[k]);
                x.late(late);
                x.person(0, 0, 0);
                x.noons(1);
                Due.is("z behind a draw from " + from[k], x.count(7), to[k]);
                Due.is("CAUGHT at LATE " + late, x.told(0, 5), late - rests[k]);
            }
        }
    }

    private static void drawnBy(int z, int kind, int home, int hire, int behind) {
        NoonFields x = new NoonFields();
        x.seed(z);
        Due.is("deal", x.deal(1), 1);
        Due.is("KIND by " + z, x.told(0, 0), kind);
        Due.is("HOME by " + z, x.told(0, 1), home);
        Due.is("HIRE by " + z, x.told(0, 2), hire);
        Due.is("z behind " + z, x.count(7), behind);
    }

    private static void drawn() {
        drawnBy(11371, 5, 8, 59, -134143098);
        drawnBy(2270, 0, 0, 0, 32732373);
        drawnBy(-1, 1, 3, 39, 646343466);
        drawnBy(LOW, 2, 7, 7, 654583775);
        drawnBy(HIGH, 5, 8, 47, -1501140182);
    }

    // ---- promises

    private static void newObject() {
        NoonFields x = new NoonFields();
        int[] counts = {0, 0, 10, 0, 0, 0, 0, 1, Due.BAD};
        for (int what = 0; what < 9; what++) {
            Due.is("count " + what, x.count(what), counts[what]);
        }
        Due.is("told of nobody", x.told(0, 0), Due.BAD);
        for (int key = 0; key < 3; key++) {
            Due.is("why " + key, x.why(key), Due.NONE);
        }
        for (int sheet = 0; sheet < 4; sheet++) {
            Due.is("SHEET " + sheet + " is MISSING", x.reads(sheet), Due.NOTHING);
        }
        for (int slot = 0; slot < 5; slot++) {
            Due.is("SLOT " + slot + " holds nothing", x.lay(slot, 0, 0), 0);
        }
        Due.is("no IMAGE", x.back(), Due.NO);
        NoonFields other = new NoonFields();
        other.person(0, 0, 0);
        Due.is("another one is another one", x.count(0), 0);
    }

    private static void personBad() {
        Due.only(Made::busy, "person kind", 0, 5, (x, v) -> x.person(v, 0, 0));
        Due.only(Made::busy, "person home", 0, 8, (x, v) -> x.person(0, v, 0));
        Due.only(Made::busy, "person hire", 0, 99, (x, v) -> x.person(0, 0, v));
    }

    private static NoonFields eight() {
        NoonFields x = Made.busy();
        x.deal(4);
        return x;
    }

    private static void personFull() {
        Due.is("the eighth", Made.neighbours(7, 0).person(0, 0, 0), 7);
        Due.refused(EdgesPeopleTest::eight, "the ninth", Due.FULL, x -> x.person(5, 8, 99));
        Due.refused(EdgesPeopleTest::eight, "BAD ahead of FULL", Due.BAD, x -> x.person(6, 0, 0));
        Due.refused(EdgesPeopleTest::eight, "BAD ahead of FULL", Due.BAD, x -> x.person(0, 9, 0));
        Due.refused(EdgesPeopleTest::eight, "BAD ahead of FULL", Due.BAD, x -> x.person(0, 0, 100));
    }

    private static void toldBad() {
        Due.only(Made::busy, "told one", 0, 3, (x, v) -> x.told(v, 0));
        Due.only(EdgesPeopleTest::eight, "told one of eight", 0, 7, (x, v) -> x.told(v, 6));
        Due.only(Made::busy, "told what", 0, 6, (x, v) -> x.told(3, v));
    }

    private static void walkMay() {
        NoonFields x = Made.neighbours(2, 4);
        Due.is("it may", x.walk(0, 4, 1), 1);
        Made.rooms(x, 0);
        Due.is("it may where there is no ROOM", x.walk(0, 4, 1), 1);
        x.lays(4, 2, 4);
        x.talk(0, 1, 1);
        x.noons(1);
        Due.is("it may where there was one of whom there is TALK", x.walk(1, 4, 1), 1);
        x.lays(4, 0, 1);
        Due.is("it may not", x.walk(1, 4, 1), 0);
    }

    private static void walkBad() {
        Due.only(Made::busy, "walk one", 0, 3, (x, v) -> x.walk(v, 0, 0));
        Due.only(Made::busy, "walk field", 0, 8, (x, v) -> x.walk(0, v, 0));
        Due.only(Made::busy, "walk field, whether", 0, 8, (x, v) -> x.walk(0, v, 1));
        Due.only(Made::busy, "walk what", 0, 1, (x, v) -> x.walk(0, 0, v));
    }

    private static void asBad() {
        Due.only(Made::busy, "as one", 0, 3, (x, v) -> x.as(v, 0));
        Due.only(Made::busy, "as kind", 0, 5, (x, v) -> x.as(0, v));
        Due.refused(Made::busy, "BAD ahead of KIND", Due.BAD, x -> x.as(4, 1));
        Due.refused(Made::busy, "BAD ahead of KIND", Due.BAD, x -> x.as(3, 6));
    }

    private static void asKind() {
        Due.refused(Made::busy, "a NEIGHBOUR as LAME", Due.KIND, x -> x.as(0, 1));
        Due.refused(Made::busy, "an OLD one as CHILD", Due.KIND, x -> x.as(1, 4));
        Due.is("an OLD one as LAME", Made.busy().as(1, 1), 42);
        NoonFields x = Made.busy();
        x.turns(1, 1);
        Due.is("one that is OLD no more", x.as(1, 3), Due.KIND);
        Due.is("one that is LAME", x.as(1, 1), 42);
    }

    private static void turnsWas() {
        for (int from = 0; from < 6; from++) {
            for (int to = 0; to < 6; to++) {
                NoonFields x = new NoonFields();
                x.person(from, 0, 10);
                Due.is("turns", x.turns(0, to), from);
                Due.is("turned", x.told(0, 0), to);
            }
        }
        NoonFields x = Made.neighbours(2, 0);
        x.lays(0, 0, 1);
        x.late(100);
        x.noons(1);
        x.turns(1, 3);
        Due.is("HAD as before", x.told(1, 3), 2);
        Due.is("HOURS as before", x.told(1, 4), 1);
        Due.is("CAUGHT as before", x.told(1, 5), 1);
        Due.is("the other one is what it was", x.told(0, 0), 0);
    }

    private static void turnsBad() {
        Due.only(Made::busy, "turns one", 0, 3, (x, v) -> x.turns(v, 0));
        Due.only(Made::busy, "turns kind", 0, 5, (x, v) -> x.turns(0, v));
    }

    private static void setWas() {
        NoonFields x = Made.busy();
        Due.is("HOME", x.set(1, 1, 8), 0);
        Due.is("HOME again", x.set(1, 1, 8), 8);
        Due.is("HOME back", x.set(1, 1, 0), 8);
        Due.is("HIRE", x.set(1, 2, 99), 42);
        Due.is("HIRE back", x.set(1, 2, 0), 99);
        Due.is("HIRE", x.told(1, 2), 0);
        Due.is("HIRE of another", x.told(0, 2), 20);
        NoonFields y = Made.neighbours(2, 0);
        y.lays(0, 0, 1);
        y.late(100);
        y.noons(1);
        y.set(1, 1, 8);
        y.set(1, 2, 99);
        int[] due = {0, 8, 99, 2, 1, 1};
        for (int what = 0; what < 6; what++) {
            Due.is("told " + what + " behind set", y.told(1, what), due[what]);
        }
        Due.is("it owns as before", y.field(0, 0), 1);
    }

    private static void setBad() {
        Due.only(Made::busy, "set one", 0, 3, (x, v) -> x.set(v, 1, 1));
        Due.only(Made::busy, "set what", 1, 2, (x, v) -> x.set(0, v, 1));
        Due.only(Made::busy, "set HOME", 0, 8, (x, v) -> x.set(0, 1, v));
        Due.only(Made::busy, "set HIRE", 0, 99, (x, v) -> x.set(0, 2, v));
    }

    private static void talkWas() {
        NoonFields x = Made.neighbours(8, 0);
        Due.is("none, and none", x.talk(0, 7, 0), 0);
        Due.is("none, and some", x.talk(0, 7, 1), 0);
        Due.is("some, and some", x.talk(7, 0, 1), 1);
        Due.is("one two", x.count(3), 1);
        Due.is("others", x.talk(0, 6, 0), 0);
        Due.is("some, and none", x.talk(7, 0, 0), 1);
        Due.is("none", x.talk(0, 7, 0), 0);
        Due.is("no two", x.count(3), 0);
        for (int way = 0; way < 8; way++) {
            talkWasEachWay(way % 2, way / 2 % 2, way / 4);
        }
    }

    /** TALK of 0 and 1 begins, ends and is told, each with the lesser or the greater one first. */
    private static void talkWasEachWay(int begin, int end, int told) {
        NoonFields x = Made.neighbours(2, 4);
        Made.rooms(x, 0);
        x.lays(4, 2, 4);
        x.talk(begin, 1 - begin, 1);
        Due.is("TALK", x.talk(told, 1 - told, 1), 1);
        Due.is("LEFT, whoever begins", x.noons(2), 2);
        Due.is("it ends", x.talk(end, 1 - end, 0), 1);
        Due.is("no two", x.count(3), 0);
        Due.is("not LEFT, whoever begins", x.noons(2), 0);
        Due.is("no TALK", x.talk(told, 1 - told, 0), 0);
        Due.is("it begins again", x.talk(end, 1 - end, 1), 0);
        Due.is("TALK", x.talk(told, 1 - told, 0), 1);
    }

    private static void talkBad() {
        Due.only(Made::busy, "talk one", 0, 3, (x, v) -> x.talk(v, v == 3 ? 2 : 3, 1));
        Due.only(Made::busy, "talk other", 0, 3, (x, v) -> x.talk(v == 3 ? 2 : 3, v, 1));
        Due.only(Made::busy, "talk v", 0, 1, (x, v) -> x.talk(0, 1, v));
        for (int v = 0; v < 2; v++) {
            int to = v;
            Due.refused(Made::busy, "talk of 0 with itself", Due.BAD, x -> x.talk(0, 0, to));
            Due.refused(Made::busy, "talk of 3 with itself", Due.BAD, x -> x.talk(3, 3, to));
        }
    }

    private static void fieldBad() {
        Due.only(Made::busy, "field", 0, 8, (x, v) -> x.field(v, 0));
        Due.only(Made::busy, "field what", 0, 2, (x, v) -> x.field(0, v));
    }

    private static void laysWas() {
        NoonFields x = Made.busy();
        Due.is("OWNER", x.lays(4, 0, 8), 0);
        Due.is("OWNER again", x.lays(4, 0, 8), 8);
        Due.is("CORN", x.lays(8, 1, 99) >= 0 ? x.lays(8, 1, 0) : 0, 99);
        Due.is("ROOM", x.lays(0, 2, 4), 2);
        Due.is("ROOM of another", x.field(1, 2), 1);
    }

    private static void laysBad() {
        int[] high = {8, 99, 4};
        for (int what = 0; what < 3; what++) {
            int of = what;
            Due.only(Made::busy, "lays " + what, 0, high[what], (x, v) -> x.lays(0, of, v));
            Due.only(Made::busy, "lays of FIELD, " + what, 0, 8, (x, v) -> x.lays(v, of, 1));
        }
        Due.only(Made::busy, "lays what", 0, 2, (x, v) -> x.lays(0, v, 0));
    }

    private static void farBad() {
        Due.only(Made::busy, "far one", 0, 8, (x, v) -> x.far(v, 0));
        Due.only(Made::busy, "far other", 0, 8, (x, v) -> x.far(0, v));
    }

    private static void lateWas() {
        NoonFields x = Made.busy();
        Due.is("late", x.late(100), 35);
        Due.is("late again", x.late(100), 100);
        Due.is("late", x.late(0), 100);
        Due.is("late", x.late(1), 0);
    }

    private static void lateBad() {
        Due.only(Made::busy, "late", 0, 100, (x, v) -> x.late(v));
    }

    /** Whom z 1 draws, worked out by hand. */
    private static void dealMany() {
        int[][] due = {{2, 2, 36}, {5, 7, 36}, {4, 2, 28}, {3, 3, 36}, {4, 2, 29}, {5, 7, 37}, {0, 0, 4}, {0, 5, 7}};
        int[] z = {662824084, -1778682749, -1084965762, 836760821, 2111915288, -759193129, -380208926, 675780521};
        for (int n = 1; n <= 8; n++) {
            NoonFields x = new NoonFields();
            Due.is("deal " + n, x.deal(n), n);
            Due.is("how many", x.count(0), n);
            Due.is("z", x.count(7), z[n - 1]);
            for (int one = 0; one < n; one++) {
                for (int what = 0; what < 3; what++) {
                    Due.is("told " + one + " " + what, x.told(one, what), due[one][what]);
                }
            }
        }
    }

    private static void dealRoom() {
        NoonFields x = Made.neighbours(6, 0);
        Due.is("deal 8, where two have room", x.deal(8), 2);
        Due.is("draws for two", x.count(7), -1778682749);
        Due.is("the last one", x.told(7, 1), 7);
        Due.is("deal 1, where there is no room", x.deal(1), 0);
        Due.is("deal 8, where there is no room", x.deal(8), 0);
        Due.is("no draws", x.count(7), -1778682749);
        NoonFields y = Made.neighbours(7, 0);
        Due.is("deal 1, where there is room for it", y.deal(1), 1);
        NoonFields z = Made.neighbours(7, 0);
        Due.is("deal 2, where one has room", z.deal(2), 1);
        Due.is("draws for one", z.count(7), 662824084);
    }

    private static void dealBad() {
        Due.only(Made::busy, "deal", 1, 8, (x, v) -> x.deal(v));
        Due.refused(EdgesPeopleTest::eight, "deal 9, where there is no room", Due.BAD, x -> x.deal(9));
        Due.refused(EdgesPeopleTest::eight, "deal 0, where there is no room", Due.BAD, x -> x.deal(0));
    }

    private static void seedAny() {
        NoonFields x = new NoonFields();
        int was = 1;
        for (int v : new int[] {0, -1, LOW, HIGH, Due.BAD, Due.NONE, 5}) {
            Due.is("seed", x.seed(v), was);
            Due.is("z", x.count(7), v);
            was = v;
        }
    }
}
