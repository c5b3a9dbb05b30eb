/** Promises 15 to 24: A NOON, BEST PLACING, what will be. */
final class NoonsTest {
    public static void main(String[] args) {
        whoBeginsAndWhereTheyGo();
        hoursForTheOwner();
        leftForWantOfRoom();
        leftForTalk();
        theBell();
        noonWithNobody();
        theLastNoon();
        promise16();
        promise17();
        promise17Refused();
        promise18();
        promise19();
        promise20();
        promise21();
        promise22();
        promise23();
        promise24();
        nothingChangesByThinking();
        Due.end("NoonsTest");
    }

    private static NoonFields two(int home, int otherHome) {
        NoonFields x = new NoonFields();
        x.late(0);
        x.person(0, home, 0);
        x.person(0, otherHome, 0);
        return x;
    }

    private static void rooms(NoonFields x, int room) {
        for (int f = 0; f < 9; f++) {
            x.lays(f, 2, room);
        }
    }

    private static void corn(NoonFields x, int corn) {
        for (int f = 0; f < 9; f++) {
            x.lays(f, 1, corn);
        }
    }

    private static void whoBeginsAndWhereTheyGo() {
        NoonFields x = two(0, 0);
        Due.is("noons", x.noons(1), 0);
        Due.is("0 began: HAD", x.told(0, 3), 1);
        Due.is("of several FIELDS the least number", x.told(1, 3), 2);
        Due.is("STEPS", x.year(0), 30);
        Due.is("CORN", x.field(0, 1), 9);
        Due.is("CORN", x.field(1, 1), 9);
        Due.is("noons", x.noons(1), 0);
        Due.is("1 began: HAD", x.told(1, 3), 3);
        Due.is("HAD both", x.told(0, 3), 3);
        Due.is("STEPS so far", x.year(0), 58);
        Due.is("CORN together", x.year(2), 86);
        Due.is("THE NOON", x.count(1), 2);
        corn(x, 0);
        x.noons(1);
        Due.is("CORN 0 at least", x.year(2), 0);
    }

    private static void hoursForTheOwner() {
        NoonFields x = two(0, 0);
        x.lays(0, 0, 0);
        x.lays(1, 0, 7);
        x.noons(1);
        Due.is("0 does not go on its own", x.told(0, 3), 2);
        Due.is("1 goes there", x.told(1, 3), 1);
        Due.is("HOURS of the OWNER", x.told(0, 4), 1);
        Due.is("HOURS of the other", x.told(1, 4), 0);
        Due.is("HOURS together, none for nobody", x.year(4), 1);
        x.turns(1, 5);
        for (int f = 0; f < 9; f++) {
            x.lays(f, 0, 1);
        }
        x.noons(1);
        Due.is("none for standing on one's own", x.told(1, 4), 1);
    }

    private static void leftForWantOfRoom() {
        NoonFields x = two(4, 4);
        rooms(x, 0);
        x.lays(4, 2, 1);
        Due.is("one is LEFT in each", x.noons(3), 3);
        Due.is("LEFT so far", x.year(1), 3);
        Due.is("0 began", x.told(0, 3), 16);
        Due.is("1 began once", x.told(1, 3), 16);
        Due.is("CORN that one treads", x.field(4, 1), 7);
        x.lays(4, 2, 2);
        Due.is("room for both", x.noons(1), 0);
        Due.is("CORN that two tread", x.field(4, 1), 5);
        Due.is("STEPS", x.year(0), 10 + 9 + 8 + 7 + 6);
        x.lays(4, 2, 0);
        x.late(100);
        Due.is("all LEFT", x.noons(1), 2);
        Due.is("who is LEFT is not CAUGHT", x.year(3), 0);
    }

    private static void leftForTalk() {
        NoonFields x = two(4, 4);
        rooms(x, 0);
        x.lays(4, 2, 4);
        x.talk(1, 0, 1);
        Due.is("TALK", x.noons(2), 2);
        x.talk(0, 1, 0);
        Due.is("no TALK", x.noons(1), 0);
    }

    private static void theBell() {
        // The first draw of z 1 is 4310654.
        for (int late = 54; late <= 55; late++) {
            NoonFields x = two(0, 8);
            x.late(late);
            x.noons(1);
            Due.is("z behind the draw", x.count(7), 1103527590);
            Due.is("CAUGHT at LATE " + late, x.year(3), late == 54 ? 0 : 2);
        }
        NoonFields y = two(0, 0);
        y.late(100);
        rooms(y, 0);
        y.lays(1, 2, 1);
        y.lays(2, 2, 1);
        y.noons(1);
        Due.is("CAUGHT FAR 1", y.told(0, 5), 1);
        Due.is("not CAUGHT FAR 2", y.told(1, 5), 0);
    }

    private static void noonWithNobody() {
        NoonFields x = new NoonFields();
        Due.is("noons with nobody", x.noons(1), 0);
        Due.is("the draw", x.count(7), 1103527590);
        Due.is("THE NOON", x.count(1), 1);
        Due.is("CORN", x.year(2), 90);
    }

    private static void theLastNoon() {
        NoonFields x = two(4, 4);
        rooms(x, 0);
        int left = 0;
        for (int k = 0; k < 99; k++) {
            left += x.noons(100);
        }
        Due.is("LEFT", left, 2 * 9900);
        Due.is("noons ahead of the last", x.noons(98), 2 * 98);
        Due.is("the last noon alone", x.noons(2), 2);
        Due.is("THE NOON at most", x.count(1), 9999);
        int z = x.count(7);
        Due.is("no more noons", x.noons(100), 0);
        Due.is("no more draws", x.count(7), z);
        Due.is("BEHIND without the bound", x.behind(3, 1), 2 * 10002);
        x.keep();
        Due.is("check of no noons", x.check(5), 0);
        x.tell(0);
        Due.is("check of no noons, one too many", x.check(5), 1);
    }

    private static void promise16() {
        NoonFields x = two(0, 0);
        x.lays(0, 0, 1);
        x.late(100);
        rooms(x, 0);
        x.lays(0, 2, 1);
        x.noons(2);
        int[] due = {10 + 9, 2, 88, 2, 2};
        for (int what = 0; what < 5; what++) {
            Due.is("year " + what, x.year(what), due[what]);
        }
    }

    private static void promise17() {
        NoonFields x = two(0, 0);
        Due.is("best", x.best(0), 30);
        Due.is("the first in order", x.best(1), 1);
        x.lays(0, 0, 0);
        x.lays(1, 0, 0);
        Due.is("best of fields that are owned", x.best(0), 20 + 10);
        Due.is("its FIELDS", x.best(1), 3 * 9);
        rooms(x, 2);
        x.lays(0, 0, 8);
        Due.is("best with room", x.best(0), 20);
        Due.is("both on 0", x.best(1), 0);
        x.talk(0, 1, 1);
        Due.is("best with TALK", x.best(0), 30);
        Due.is("0 on 0, 1 beside it", x.best(1), 1);
        // One by one is not best: 0 would take 0, and 1 be far off.
        NoonFields y = two(0, 0);
        rooms(y, 0);
        y.lays(0, 2, 1);
        y.lays(1, 2, 1);
        y.lays(8, 2, 1);
        y.lays(1, 0, 1);
        Due.is("best looks ahead", y.best(0), 20 + 10);
        Due.is("1 on its only near FIELD", y.best(1), 9);
        Due.is("one by one", y.behind(1, 0), 10 + 50);
        for (int k = 0; k < 3; k++) {
            y.person(5, 0, 0);
        }
        rooms(y, 4);
        Due.is("five", y.best(0), 20);
        Due.is("four on 0, the last beside it", y.best(1), 1);
        y.set(0, 1, 8);
        Due.is("five, 0 is the highest digit", y.best(1), 8 * 9 * 9 * 9 * 9);
    }

    private static void promise17Refused() {
        NoonFields x = new NoonFields();
        Due.is("best of nobody", x.best(0), Due.NONE);
        NoonFields y = new NoonFields();
        y.person(5, 3, 0);
        Due.is("best of a HERMIT", y.best(0), 0);
        Due.is("best of one", y.best(1), 0);
        y.person(5, 3, 0);
        Due.is("best of two HERMITS", y.best(0), 0);
        Due.is("the first in order of two", y.best(1), 1);
        x.person(0, 0, 0);
        rooms(x, 0);
        Due.is("no way", x.best(0), Due.NONE);
        rooms(x, 4);
        for (int k = 0; k < 4; k++) {
            x.person(5, 0, 0);
        }
        Due.is("five", x.best(0), 10);
        x.person(5, 0, 0);
        Due.is("six", x.best(0), Due.NONE);
        Due.is("six, BAD ahead of NONE", x.best(2), Due.BAD);
    }

    private static void promise18() {
        NoonFields x = two(0, 0);
        x.late(55);
        Due.is("BEHIND 0", x.behind(0, 0), 0);
        Due.is("BEHIND 2: STEPS", x.behind(2, 0), 58);
        Due.is("BEHIND 2: LEFT", x.behind(2, 1), 0);
        Due.is("BEHIND 2: CORN", x.behind(2, 2), 86);
        Due.is("BEHIND 1: CAUGHT", x.behind(1, 3), 2);
        Due.is("thinking leaves z as it is", x.count(7), 1);
        x.noons(1);
        Due.is("both so far", x.behind(1, 0), 58);
        rooms(x, 0);
        Due.is("LEFT behind 100", x.behind(100, 1), 200);
    }

    private static void promise19() {
        NoonFields x = two(0, 0);
        x.lays(0, 0, 0);
        Due.is("HOURS behind 0", x.has(0, 0, 0), 0);
        Due.is("HOURS behind 3", x.has(0, 3, 0), 3);
        Due.is("HOURS of the other", x.has(1, 3, 0), 0);
        Due.is("HAD behind 1", x.has(0, 1, 1), 2);
        Due.is("HAD of the other", x.has(1, 3, 1), 1);
        x.noons(2);
        Due.is("HOURS so far", x.has(0, 1, 0), 3);
    }

    private static void promise20() {
        NoonFields x = two(0, 0);
        Due.is("ROTA of 0", x.rota(0), 0);
        Due.is("ROTA of 1", x.rota(1), 1);
        Due.is("ROTA of 2", x.rota(2), 2);
        x.noons(1);
        Due.is("ROTA counts what they had", x.rota(1), 0);
        Due.is("ROTA of 2 then", x.rota(2), 1);
        NoonFields y = new NoonFields();
        y.person(0, 0, 0);
        Due.text(y, "walk h", 0);
        for (int m = 0; m < 10; m++) {
            Due.is("ROTA of one who goes on", y.rota(m), m);
        }
        NoonFields z = new NoonFields();
        z.person(0, 0, 0);
        rooms(z, 0);
        Due.is("not by then", z.rota(1), Due.NONE);
        Due.is("nothing to have", z.rota(0), 0);
        Due.is("ROTA with nobody", new NoonFields().rota(9), 0);
        rotaAtItsEnd();
    }

    /** One treads FIELD 0 till it has no CORN, FIELD 1 likewise, then FIELD 2: 100 noons are in ROTA, 101 not. */
    private static void rotaAtItsEnd() {
        for (int corn = 97; corn <= 99; corn++) {
            NoonFields x = new NoonFields();
            x.person(0, 0, 0);
            for (int f = 3; f < 9; f++) {
                x.lays(f, 2, 0);
            }
            x.lays(0, 1, corn);
            x.lays(1, 1, 1);
            Due.text(x, "walk (d<2)*(c=0)*3+d", 0);
            Due.is("ROTA of 2", x.rota(2), corn + 1);
            Due.is("ROTA of 3", x.rota(3), corn + 2 <= 100 ? corn + 2 : Due.NONE);
        }
    }

    private static void promise21() {
        NoonFields x = two(0, 0);
        Due.is("SOLD: they change places", x.sold(0, 0, 1), 0);
        // It goes 10, 9, 8 on FIELD 0; when it owns that, 20, 19, 18 on FIELD 1.
        NoonFields y = new NoonFields();
        y.person(0, 0, 0);
        Due.is("SOLD for 1", y.sold(0, 0, 1), 10);
        Due.is("SOLD for 3", y.sold(0, 0, 3), 20 + 19 + 18 - 10 - 9 - 8);
        Due.is("SOLD, where it does not go", y.sold(8, 0, 3), 0);
        y.lays(0, 0, 0);
        Due.is("SOLD to its OWNER", y.sold(0, 0, 3), 0);
        y.lays(0, 1, 0);
        y.turns(0, 4);
        Due.is("SOLD to a child", y.sold(1, 0, 5), 0);
        Due.is("SOLD for 60", y.sold(1, 0, 60), 0);
        NoonFields z = new NoonFields();
        z.person(0, 0, 0);
        z.person(0, 8, 0);
        z.lays(0, 0, 0);
        z.noons(1);
        Due.is("SOLD from 0 to 1, so far left out", z.sold(0, 1, 1), 10 - 19);
    }

    private static void promise22() {
        NoonFields x = new NoonFields();
        Due.is("NOBODY'S with nobody", x.nobodys(5, 0), 0);
        Due.is("NOBODY'S with nobody, the sum", x.nobodys(5, 1), 0);
        x.person(0, 4, 0);
        x.lays(4, 0, 0);
        x.lays(1, 0, 0);
        Due.is("NOBODY'S", x.nobodys(1, 0), 4);
        Due.is("NOBODY'S, the sum", x.nobodys(1, 1), 10);
        rooms(x, 0);
        x.lays(1, 2, 1);
        Due.is("NOBODY'S, not LEFT", x.nobodys(2, 0), 1);
        Due.is("NOBODY'S, not LEFT, the sum", x.nobodys(2, 1), 20 + 19);
        x.noons(1);
        Due.is("LEFT so far counts 100", x.nobodys(2, 1), 100 + 20 + 19);
        rooms(x, 0);
        Due.is("of several the least", x.nobodys(2, 0), 0);
        Due.is("of several: all LEFT", x.nobodys(2, 1), 300);
        Due.is("NOBODY'S for 60", x.nobodys(60, 1), 100 + 6000);
    }

    private static void promise23() {
        NoonFields x = new NoonFields();
        Due.is("BESIDE with nobody", x.beside(1, 0), Due.NONE);
        x.person(0, 0, 0);
        x.person(0, 8, 0);
        x.person(0, 8, 0);
        x.person(0, 0, 0);
        Due.is("no two", x.beside(60, 1), Due.NONE);
        rooms(x, 2);
        Due.is("of several the lesser", x.beside(5, 0), 3);
        Due.is("how often", x.beside(5, 1), 5);
        x.lays(0, 0, 0);
        Due.is("the others", x.beside(5, 0), 12);
        x.talk(1, 2, 1);
        x.lays(8, 0, 1);
        x.lays(0, 0, 8);
        Due.is("0 and 3 again", x.beside(5, 0), 3);
        NoonFields y = new NoonFields();
        for (int k = 0; k < 8; k++) {
            y.person(5, 0, 0);
        }
        rooms(y, 1);
        y.lays(8, 2, 2);
        Due.is("eight on eight", y.beside(8, 0), Due.NONE);
        y.lays(0, 2, 0);
        Due.is("eight on the eight others", y.beside(1, 0), Due.NONE);
        y.lays(1, 2, 0);
        // Seven FIELDS 2 .. 8, the last two of the round share 8.
        Due.is("the last two of the first round", y.beside(1, 0), 67);
        Due.is("the last two of the second round are 7 and 0", y.beside(2, 0), 7);
        Due.is("once each", y.beside(2, 1), 1);
    }

    private static void promise24() {
        NoonFields x = two(0, 8);
        Due.is("no SHEET", x.atHome(0, 5, 0), Due.NOTHING);
        x.sheet(0, 0, 9);
        for (int f = 0; f < 9; f++) {
            x.mark(0, f, f == 0 ? 7 : 10);
        }
        Due.is("tracks on 0: 1 was AT HOME", x.atHome(0, 3, 0), 1);
        Due.is("no differences", x.atHome(0, 3, 1), 0);
        Due.is("differences behind 5", x.atHome(0, 5, 1), 2);
        x.mark(0, 0, 10);
        x.mark(0, 8, 7);
        Due.is("tracks on 8: 0 was AT HOME", x.atHome(0, 3, 0), 0);
        Due.is("behind 0 the least number", x.atHome(0, 0, 0), 0);
        Due.is("behind 0 the differences", x.atHome(0, 0, 1), 3);
        x.sheet(1, 1, 11);
        for (int k = 0; k < 11; k++) {
            x.mark(1, k, Due.NONE);
        }
        x.mark(1, 0, 7);
        x.mark(1, 9, 3);
        x.mark(1, 10, -37);
        Due.is("places that are numbers alone", x.atHome(1, 3, 0), 1);
        Due.is("CORN beyond all FIELDS is 0", x.atHome(1, 3, 1), 40);
        x.sheet(3, 1, 0);
        Due.is("no places", x.atHome(3, 60, 1), 0);
        Due.is("who begins is as ever", beginsAsEver(), 2);
        NoonFields y = new NoonFields();
        Due.is("NOTHING ahead of NONE", y.atHome(0, 0, 0), Due.NOTHING);
        y.sheet(0, 0, 1);
        Due.is("nobody", y.atHome(0, 0, 0), Due.NONE);
    }

    /** At THE NOON 1 of three 1 begins; without 2 still 1, then 0. */
    private static int beginsAsEver() {
        NoonFields x = new NoonFields();
        x.late(0);
        x.noons(1);
        x.person(0, 1, 0);
        x.person(0, 0, 0);
        x.person(0, 8, 0);
        rooms(x, 0);
        x.lays(0, 2, 1);
        x.lays(2, 2, 1);
        x.lays(8, 2, 1);
        Due.text(x, "walk d*10", 0);
        x.sheet(0, 0, 9);
        for (int f = 0; f < 9; f++) {
            x.mark(0, f, f == 0 || f == 2 ? 9 : 10);
        }
        return x.atHome(0, 1, 0);
    }

    private static void nothingChangesByThinking() {
        NoonFields x = new NoonFields();
        x.seed(77);
        x.deal(5);
        x.lays(3, 0, 1);
        x.talk(0, 1, 1);
        x.noons(7);
        x.sheet(0, 1, 9);
        String before = Everything.told(x);
        int next = x.behind(20, 0);
        x.best(0);
        x.has(0, 60, 1);
        x.rota(9);
        x.sold(3, 2, 60);
        x.nobodys(60, 0);
        x.beside(60, 0);
        x.atHome(0, 60, 0);
        Due.isSame("all behind thinking", Everything.told(x), before);
        x.noons(20);
        Due.is("what was thought comes", x.year(0), next);
    }
}
