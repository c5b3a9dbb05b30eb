/** The sentences of the document that name a boundary case: Terms 2, promises 15 and 16; a test for each. */
final class EdgesNoonsTest {
    public static void main(String[] args) {
        Due.sentence("2: from the one with the number THE NOON modulo how many there are on, round",
                EdgesNoonsTest::whoBegins);
        Due.sentence("2: on which it MAY stand", EdgesNoonsTest::whereItMay);
        Due.sentence("2: where by then fewer than ROOM stand", EdgesNoonsTest::fewerThanRoom);
        Due.sentence("2: none of them one of whom there is TALK with it", EdgesNoonsTest::talkThere);
        Due.sentence("2: to which its WALK is least (of several the least number)", EdgesNoonsTest::leastWalk);
        Due.sentence("2: STEPS are WALK more", EdgesNoonsTest::steps);
        Due.sentence("2: CORN there is 1 less (0 at least)", EdgesNoonsTest::cornLess);
        Due.sentence("2: it HAS HAD that FIELD", EdgesNoonsTest::hasHad);
        Due.sentence("2: the OWNER, if it is another one of PEOPLE, has 1 HOUR more", EdgesNoonsTest::ownerHours);
        Due.sentence("2: one who finds none is LEFT (LEFT 1 more)", EdgesNoonsTest::left);
        Due.sentence("2: a draw; if its rest by 100 is below LATE", EdgesNoonsTest::belowLate);
        Due.sentence("2: all who stand on a FIELD that is FAR 1 at most from HOME", EdgesNoonsTest::farOne);
        Due.sentence("2: (who was LEFT stands on none)", EdgesNoonsTest::leftIsNotCaught);
        Due.sentence("2: THE NOON is 1 more", EdgesNoonsTest::noonMore);
        Due.sentence("Promise 15: n (1 .. 100) NOONS", EdgesNoonsTest::noonsMany);
        Due.sentence("Promise 15: (no more than up to 9999)", EdgesNoonsTest::noonsUpTo);
        Due.sentence("Promise 15: how often one was LEFT in them", EdgesNoonsTest::noonsLeft);
        Due.sentence("Promise 15: BAD", EdgesNoonsTest::noonsBad);
        Due.sentence("Promise 16: what was, together", EdgesNoonsTest::year);
        Due.sentence("Promise 16: BAD", EdgesNoonsTest::yearBad);
        Due.end("EdgesNoonsTest");
    }

    /** So many at home on 0 at a NOON with that number: the first goes on 0, the second on 1, the others are LEFT. */
    private static void whoBeginsAt(int noon, int many) {
        NoonFields x = new NoonFields();
        Made.noonsUpTo(x, noon);
        for (int k = 0; k < many; k++) {
            x.person(0, 0, 0);
        }
        Made.rooms(x, 0);
        x.lays(0, 2, 1);
        x.lays(1, 2, 1);
        Due.is("noons", x.noons(1), Math.max(0, many - 2));
        int first = noon % many;
        int second = first + 1 == many ? 0 : first + 1;
        for (int k = 0; k < many; k++) {
            int due = k == first ? 1 : k == second ? 2 : 0;
            Due.is("HAD of " + k + " of " + many + " at NOON " + noon, x.told(k, 3), due);
        }
    }

    private static void whoBegins() {
        for (int many = 1; many <= 8; many++) {
            for (int noon = 0; noon <= 9; noon++) {
                whoBeginsAt(noon, many);
            }
            whoBeginsAt(9998, many);
        }
        NoonFields x = Made.neighbours(3, 0);
        Made.rooms(x, 0);
        x.lays(0, 2, 1);
        Due.is("noons", x.noons(1), 2);
        Due.is("0 was first", x.told(0, 3), 1);
        Due.is("noons", x.noons(1), 2);
        Due.is("1 was first", x.told(1, 3), 1);
        Due.is("2 was not yet", x.told(2, 3), 0);
        x.person(0, 0, 0);
        Due.is("noons", x.noons(2), 6);
        Due.is("2 and 3 of four were first", x.told(2, 3) + x.told(3, 3), 2);
    }

    private static void whereItMay() {
        for (int kind = 0; kind < 6; kind++) {
            NoonFields x = new NoonFields();
            x.person(kind, 0, 0);
            Made.rooms(x, 0);
            x.lays(8, 2, 1);
            Due.is("far off: LEFT of " + kind, x.noons(1), kind == 3 ? 1 : 0);
            x.lays(8, 0, 0);
            x.set(0, 1, 8);
            Due.is("its own: LEFT of " + kind, x.noons(1), kind == 5 ? 0 : 1);
            x.lays(8, 1, 1);
            Due.is("its own, with CORN 1: LEFT of " + kind, x.noons(1), kind == 5 ? 0 : 1);
            x.lays(8, 1, 0);
            Due.is("its own, without CORN: LEFT of " + kind, x.noons(1), kind >= 4 ? 0 : 1);
        }
        NoonFields y = Made.neighbours(1, 0);
        y.lays(0, 0, 0);
        y.noons(1);
        Due.is("the nearest one where it may", y.told(0, 3), 2);
    }

    private static void fewerThanRoom() {
        for (int room = 0; room <= 4; room++) {
            NoonFields x = Made.neighbours(8, 4);
            Made.rooms(x, 0);
            x.lays(4, 2, room);
            Due.is("LEFT with ROOM " + room, x.noons(1), 8 - room);
            for (int one = 0; one < 8; one++) {
                Due.is("HAD of " + one, x.told(one, 3), one < room ? 16 : 0);
            }
        }
        NoonFields y = Made.neighbours(6, 4);
        y.lays(4, 2, 4);
        y.noons(1);
        Due.is("the fourth finds ROOM", y.told(3, 3), 16);
        Due.is("the fifth goes on", y.told(4, 3), 2);
        Due.is("the sixth goes on", y.told(5, 3), 8);
    }

    private static void talkThere() {
        for (int later = 0; later < 2; later++) {
            NoonFields x = Made.neighbours(0, 0);
            x.noons(1 + later);
            x.person(0, 4, 0);
            x.person(0, 4, 0);
            x.lays(4, 2, 4);
            x.talk(0, 1, 1);
            x.noons(1);
            int first = (1 + later) % 2;
            Due.is("the first stays", x.told(first, 3), 16);
            Due.is("the other goes on", x.told(1 - first, 3), 2);
        }
        NoonFields y = Made.neighbours(3, 4);
        y.lays(4, 2, 4);
        y.talk(0, 2, 1);
        y.noons(1);
        Due.is("no TALK of 1", y.told(1, 3), 16);
        Due.is("TALK of 2 with one of two", y.told(2, 3), 2);
        y.talk(2, 0, 0);
        Made.rooms(y, 0);
        y.lays(4, 2, 4);
        Due.is("no TALK any more", y.noons(1), 0);
        NoonFields z = Made.neighbours(2, 4);
        Made.rooms(z, 0);
        z.lays(4, 2, 4);
        z.talk(0, 1, 1);
        Due.is("TALK, and no other FIELD", z.noons(3), 3);
        for (int one = 0; one < 3; one++) {
            NoonFields w = Made.neighbours(4, 4);
            w.lays(4, 2, 4);
            w.talk(3, one, 1);
            w.noons(1);
            Due.is("TALK with one of three", w.told(3, 3), 2);
            Due.is("that one stays", w.told(one, 3), 16);
        }
    }

    private static void leastWalk() {
        int[] due = {0, 1, 3, 2, 4, 6, 5, 7, 8};
        NoonFields x = Made.neighbours(1, 0);
        for (int k = 0; k < 9; k++) {
            int had = x.told(0, 3);
            x.noons(1);
            Due.is("FIELD that is next", x.told(0, 3) - had, 1 << due[k]);
            x.lays(due[k], 2, 0);
        }
        NoonFields y = new NoonFields();
        for (int k = 0; k < 8; k++) {
            y.person(5, 8, 0);
        }
        y.noons(1);
        for (int k = 0; k < 8; k++) {
            Due.is("HERMIT " + k + " on the least number", y.told(k, 3), 1 << k);
        }
        NoonFields z = Made.neighbours(1, 4);
        z.lays(4, 0, 0);
        z.lays(7, 1, 9);
        z.noons(1);
        Due.is("less CORN ahead of the least number", z.told(0, 3), 1 << 7);
    }

    private static void steps() {
        NoonFields x = Made.neighbours(2, 0);
        x.lays(0, 2, 2);
        x.noons(1);
        Due.is("STEPS, CORN as it is when one sets out", x.year(0), 10 + 9);
        x.noons(1);
        Due.is("STEPS more", x.year(0), 10 + 9 + 8 + 7);
        NoonFields y = new NoonFields();
        y.person(3, 0, 0);
        Due.text(y, "walk 5000", 0);
        y.noons(100);
        Due.is("the most STEPS", y.year(0), 100 * 2003);
        NoonFields z = new NoonFields();
        z.person(5, 0, 0);
        z.noons(1);
        Due.is("no STEPS of a HERMIT", z.year(0), 0);
    }

    private static void cornLess() {
        for (int corn = 0; corn <= 3; corn++) {
            NoonFields x = Made.neighbours(2, 0);
            Made.rooms(x, 0);
            x.lays(0, 2, 2);
            x.lays(0, 1, corn);
            x.noons(1);
            Due.is("CORN that two tread of " + corn, x.field(0, 1), Math.max(0, corn - 2));
            Due.is("CORN that nobody treads", x.field(1, 1), 10);
        }
        NoonFields y = Made.neighbours(1, 0);
        Made.rooms(y, 0);
        y.lays(0, 2, 1);
        y.lays(0, 1, 99);
        y.noons(98);
        Due.is("CORN behind 98", y.field(0, 1), 1);
        y.noons(1);
        Due.is("CORN behind 99", y.field(0, 1), 0);
        y.noons(1);
        Due.is("CORN behind 100", y.field(0, 1), 0);
        Due.is("STEPS", y.year(0), 99 * 100 / 2);
    }

    private static void hasHad() {
        NoonFields x = Made.neighbours(2, 8);
        x.noons(1);
        Due.is("HAD 8", x.told(0, 3), 256);
        Due.is("HAD 5", x.told(1, 3), 32);
        x.noons(1);
        Due.is("HAD both", x.told(0, 3), 256 + 32);
        Made.rooms(x, 0);
        x.noons(1);
        Due.is("HAD no more where it is LEFT", x.told(0, 3), 256 + 32);
    }

    private static void ownerHours() {
        for (int owner = 0; owner <= 8; owner++) {
            NoonFields x = new NoonFields();
            x.late(0);
            for (int k = 0; k < 3; k++) {
                x.person(5, 0, 0);
            }
            x.lays(0, 2, 3);
            x.lays(0, 0, owner);
            x.noons(1);
            for (int one = 0; one < 3; one++) {
                Due.is("HOURS of " + one + " on FIELD of " + owner, x.told(one, 4), one == owner ? 2 : 0);
            }
            Due.is("HOURS together", x.year(4), owner < 3 ? 2 : 0);
        }
        NoonFields y = new NoonFields();
        y.person(4, 0, 0);
        y.lays(0, 0, 0);
        y.lays(0, 1, 0);
        y.noons(1);
        Due.is("a CHILD on its own", y.told(0, 3), 1);
        Due.is("no HOUR for that", y.told(0, 4), 0);
        NoonFields z = Made.neighbours(2, 0);
        z.lays(0, 0, 1);
        Made.rooms(z, 0);
        z.noons(1);
        Due.is("no HOUR where nobody stands", z.told(1, 4), 0);
    }

    private static void left() {
        NoonFields x = Made.neighbours(8, 4);
        Made.rooms(x, 0);
        Due.is("all LEFT", x.noons(100), 800);
        Due.is("LEFT", x.year(1), 800);
        Due.is("STEPS", x.year(0), 0);
        Due.is("CORN", x.year(2), 90);
        Due.is("HAD", x.told(0, 3), 0);
        NoonFields y = Made.neighbours(1, 4);
        for (int f = 0; f < 9; f++) {
            y.lays(f, 0, 0);
        }
        Due.is("LEFT, where all is its own", y.noons(1), 1);
        Due.is("no HOURS", y.year(4), 0);
    }

    private static void bell(int seed, int late, int due) {
        NoonFields x = new NoonFields();
        x.person(0, 4, 0);
        x.seed(seed);
        x.late(late);
        x.noons(1);
        Due.is("CAUGHT by z " + seed + " at LATE " + late, x.told(0, 5), due);
    }

    /** The rests of the draws from 61, 190, 1, 235, 18 are 0, 1, 54, 98, 99. */
    private static void belowLate() {
        bell(61, 0, 0);
        bell(61, 1, 1);
        bell(190, 1, 0);
        bell(190, 2, 1);
        bell(1, 54, 0);
        bell(1, 55, 1);
        bell(235, 98, 0);
        bell(235, 99, 1);
        bell(18, 99, 0);
        bell(18, 100, 1);
        NoonFields x = Made.neighbours(1, 4);
        x.noons(1);
        Due.is("a draw also at LATE 0", x.count(7), 1103527590);
        x.noons(99);
        Due.is("never at LATE 0", x.year(3), 0);
        x.late(100);
        x.noons(100);
        Due.is("ever at LATE 100", x.year(3), 100);
        NoonFields y = Made.neighbours(1, 4);
        y.late(55);
        y.noons(6);
        // The rests of the first six draws from 1 are 54, 32, 56, 3, 87, 36.
        Due.is("one draw for each noon", y.year(3), 4);
    }

    private static void farOne() {
        for (int home = 0; home < 9; home++) {
            for (int f = 0; f < 9; f++) {
                NoonFields x = new NoonFields();
                x.person(0, home, 0);
                x.late(100);
                Made.rooms(x, 0);
                x.lays(f, 2, 1);
                x.noons(1);
                Due.is("CAUGHT on " + f + " from " + home, x.told(0, 5), x.far(home, f) <= 1 ? 1 : 0);
            }
        }
        NoonFields y = new NoonFields();
        y.late(100);
        for (int k = 0; k < 8; k++) {
            y.person(0, 4, 0);
        }
        y.noons(1);
        Due.is("all of those who stand near", y.year(3), 5);
    }

    private static void leftIsNotCaught() {
        NoonFields x = Made.neighbours(2, 4);
        x.late(100);
        Made.rooms(x, 0);
        x.lays(4, 2, 1);
        x.noons(1);
        Due.is("who stands is CAUGHT", x.told(0, 5), 1);
        Due.is("who is LEFT is not", x.told(1, 5), 0);
        x.noons(1);
        Due.is("who stood the noon before is not", x.told(0, 5), 1);
        Due.is("who stands now is", x.told(1, 5), 1);
        x.lays(4, 2, 0);
        x.noons(5);
        Due.is("nobody", x.year(3), 2);
    }

    private static void noonMore() {
        NoonFields x = new NoonFields();
        x.noons(1);
        Due.is("with nobody", x.count(1), 1);
        Due.is("z with nobody", x.count(7), 1103527590);
        x.person(0, 0, 0);
        x.noons(1);
        Due.is("with one", x.count(1), 2);
        Made.rooms(x, 0);
        x.noons(3);
        Due.is("where all are LEFT", x.count(1), 5);
    }

    private static void noonsMany() {
        NoonFields x = Made.neighbours(1, 0);
        Due.is("the fewest", x.noons(1), 0);
        Due.is("THE NOON", x.count(1), 1);
        Due.is("the most", x.noons(100), 0);
        Due.is("THE NOON", x.count(1), 101);
        NoonFields y = Made.neighbours(1, 0);
        for (int k = 0; k < 101; k++) {
            y.noons(1);
        }
        Due.isSame("101 noons one by one", Everything.of(y), Everything.of(x));
    }

    private static NoonFields at(int noon) {
        NoonFields x = new NoonFields();
        Made.noonsUpTo(x, noon);
        x.person(0, 4, 0);
        x.person(0, 4, 0);
        Made.rooms(x, 0);
        return x;
    }

    private static void noonsUpTo() {
        NoonFields x = at(9899);
        Due.is("100 more", x.noons(100), 200);
        Due.is("THE NOON", x.count(1), 9999);
        NoonFields y = at(9900);
        Due.is("99 of 100 more", y.noons(100), 198);
        Due.is("THE NOON", y.count(1), 9999);
        NoonFields z = at(9998);
        Due.is("1 of 2 more", z.noons(2), 2);
        Due.is("THE NOON", z.count(1), 9999);
        NoonFields last = at(9999);
        String all = Everything.told(last);
        Due.is("none of 1 more", last.noons(1), 0);
        Due.is("none of 100 more", last.noons(100), 0);
        Due.isSame("all", Everything.told(last), all);
        Due.is("BAD, where there are no more", last.noons(0), Due.BAD);
        Due.is("BAD, where there are no more", last.noons(101), Due.BAD);
    }

    private static void noonsLeft() {
        NoonFields x = Made.neighbours(2, 4);
        Due.is("none", x.noons(2), 0);
        Made.rooms(x, 0);
        Due.is("both, three times", x.noons(3), 6);
        x.lays(0, 2, 1);
        Due.is("one, in these alone", x.noons(2), 2);
        Due.is("LEFT in all", x.year(1), 8);
    }

    private static void noonsBad() {
        Due.only(Made::busy, "noons", 1, 100, (x, v) -> x.noons(v));
    }

    private static void year() {
        NoonFields x = Made.neighbours(8, 4);
        Made.rooms(x, 4);
        Made.corn(x, 99);
        x.lays(4, 0, 7);
        x.late(100);
        x.noons(1);
        int[] due = {4 * 109 - 1 - 2 - 3 + 4 * 99 - 1 - 2 - 3, 0, 9 * 99 - 8, 8, 4};
        for (int what = 0; what < 5; what++) {
            Due.is("year " + what, x.year(what), due[what]);
        }
        Due.is("CORN at first", new NoonFields().year(2), 90);
        Made.corn(x, 0);
        Due.is("no CORN", x.year(2), 0);
    }

    private static void yearBad() {
        Due.only(Made::busy, "year", 0, 4, (x, v) -> x.year(v));
    }
}
