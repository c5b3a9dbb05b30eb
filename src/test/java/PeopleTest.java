/** Promises 1 to 14: a new object, PEOPLE, FIELDS, draws. */
final class PeopleTest {
    private static final int LOW = Integer.MIN_VALUE, HIGH = Integer.MAX_VALUE;

    public static void main(String[] args) {
        promise1();
        promise2();
        promise3();
        promise4();
        promise4ByText();
        promise5();
        promise6();
        promise7();
        promise8();
        promise9And10();
        promise11();
        promise12();
        promise13And14();
        Due.end("PeopleTest");
    }

    private static NoonFields oneOfEach() {
        NoonFields x = new NoonFields();
        for (int kind = 0; kind < 6; kind++) {
            Due.is("person", x.person(kind, 0, 10), kind);
        }
        return x;
    }

    private static void promise1() {
        NoonFields x = new NoonFields();
        int[] counts = {0, 0, 10, 0, 0, 0, 0, 1};
        for (int what = 0; what < 8; what++) {
            Due.is("count of a new one " + what, x.count(what), counts[what]);
        }
        int[] year = {0, 0, 90, 0, 0};
        for (int what = 0; what < 5; what++) {
            Due.is("year of a new one " + what, x.year(what), year[what]);
        }
        for (int field = 0; field < 9; field++) {
            Due.is("OWNER", x.field(field, 0), 8);
            Due.is("CORN", x.field(field, 1), 10);
            Due.is("ROOM", x.field(field, 2), 1);
        }
        for (int sheet = 0; sheet < 4; sheet++) {
            Due.is("pour of none", x.pour(sheet), Due.NOTHING);
        }
        for (int slot = 0; slot < 5; slot++) {
            Due.is("rest of nothing", x.rest(slot, 1), Due.NOTHING);
        }
        Due.is("toll of a new one", x.toll(), 0);
        Due.is("back of a new one", x.back(), Due.NO);
        Due.is("told of nobody", x.told(0, 0), Due.BAD);
    }

    private static void promise2() {
        NoonFields x = new NoonFields();
        Due.is("person", x.person(5, 8, 99), 0);
        for (int k = 1; k < 8; k++) {
            Due.is("person", x.person(k % 6, k, k), k);
        }
        Due.is("the ninth", x.person(0, 0, 0), Due.FULL);
        Due.is("the ninth, wrong", x.person(0, 0, 100), Due.BAD);
    }

    private static void promise3() {
        NoonFields x = new NoonFields();
        x.person(3, 7, 42);
        int[] due = {3, 7, 42, 0, 0, 0, 92};
        for (int what = 0; what < 7; what++) {
            Due.is("told " + what, x.told(0, what), due[what]);
        }
        NoonFields y = oneOfEach();
        int[] worth = {10, 14, 89, 28, 83, 3};
        for (int one = 0; one < 6; one++) {
            Due.is("WORTH of " + one, y.told(one, 6), worth[one]);
            y.set(one, 2, 99);
        }
        int[] dear = {99, 103, 0, 206, -6, 3};
        for (int one = 0; one < 6; one++) {
            Due.is("WORTH of " + one + " for 99", y.told(one, 6), dear[one]);
        }
    }

    private static void promise4() {
        NoonFields x = oneOfEach();
        int[] home = {10, 20, 5, 25, 2, 0};
        int[] corner = {50, 100, 25, 105, 22, 0};
        for (int one = 0; one < 6; one++) {
            Due.is("WALK to HOME of " + one, x.walk(one, 0, 0), home[one]);
            Due.is("WALK to the corner of " + one, x.walk(one, 8, 0), corner[one]);
            Due.is("MAY stand far off " + one, x.walk(one, 8, 1), one == 3 ? 0 : 1);
            Due.is("MAY stand FAR 2 " + one, x.walk(one, 4, 1), 1);
            Due.is("MAY stand FAR 3 " + one, x.walk(one, 7, 1), one == 3 ? 0 : 1);
            x.lays(0, 0, one);
            Due.is("MAY stand on its own " + one, x.walk(one, 0, 1), one == 5 ? 1 : 0);
            x.lays(0, 1, 0);
            Due.is("MAY stand on its own without CORN " + one, x.walk(one, 0, 1), one >= 4 ? 1 : 0);
            x.lays(0, 1, 10);
            x.lays(0, 0, 8);
        }
        x.lays(0, 1, 5);
        Due.is("half of 5, cut", x.walk(2, 0, 0), 2);
        Due.is("less 3, 0 at least", x.walk(4, 0, 0), 0);
        x.lays(0, 0, 7);
        Due.is("the OWNER is none of PEOPLE", x.walk(0, 0, 1), 1);
    }

    private static void promise4ByText() {
        NoonFields x = oneOfEach();
        Due.text(x, "walk 100*d*d+c", 0);
        int[] corner = {999, 1998, 499, 2003, 496, 0};
        int[] beside = {110, 220, 55, 225, 52, 0};
        for (int one = 0; one < 6; one++) {
            Due.is("WALK by a TEXT, held, of " + one, x.walk(one, 8, 0), corner[one]);
            Due.is("WALK by a TEXT of " + one, x.walk(one, 1, 0), beside[one]);
        }
        Due.text(x, "walk d-c", 1);
        Due.is("WALK below 0 is held", x.walk(0, 8, 0), 0);
        Due.is("WALK below 0 is held first", x.walk(3, 8, 0), 5);
        NoonFields y = new NoonFields();
        y.person(0, 0, 0);
        Due.text(y, "walk 7*h+1", 0);
        Due.is("WALK where it has not been", y.walk(0, 0, 0), 1);
        y.noons(1);
        Due.is("WALK where it HAS HAD it", y.walk(0, 0, 0), 8);
        Due.is("WALK where it has not been", y.walk(0, 1, 0), 1);
    }

    private static void promise5() {
        NoonFields x = oneOfEach();
        int[][] of = {{0}, {1, 0}, {2, 0}, {3, 1, 0}, {4, 2, 0}, {5, 0}};
        for (int one = 0; one < 6; one++) {
            for (int kind = 0; kind < 6; kind++) {
                boolean is = false;
                for (int above : of[one]) {
                    is |= above == kind;
                }
                int want = is ? 10 : Due.KIND;
                Due.is("as " + one + " " + kind, x.as(one, kind), want);
                Due.is("lay", x.lay(0, 1, one) < 0 ? 1 : 0, 0);
                Due.is("ask " + one + " " + kind, x.ask(0, kind), is ? x.told(one, 6) : Due.KIND);
            }
        }
        Due.is("as: BAD ahead of KIND", x.as(6, 1), Due.BAD);
    }

    private static void promise6() {
        NoonFields x = oneOfEach();
        Due.is("turns", x.turns(0, 3), 0);
        Due.is("turned", x.told(0, 0), 3);
        Due.is("turned: WORTH", x.told(0, 6), 28);
        Due.is("turned: WALK", x.walk(0, 0, 0), 25);
        Due.is("turns again", x.turns(0, 5), 3);
        Due.is("turns to what it is", x.turns(0, 5), 5);
    }

    private static void promise7() {
        NoonFields x = oneOfEach();
        Due.is("set HOME", x.set(1, 1, 8), 0);
        Due.is("HOME", x.told(1, 1), 8);
        Due.is("set HIRE", x.set(1, 2, 99), 10);
        Due.is("HIRE", x.told(1, 2), 99);
        Due.is("set HIRE of 0", x.set(1, 2, 0), 99);
        Due.is("of another", x.told(2, 1), 0);
    }

    private static void promise8() {
        NoonFields x = oneOfEach();
        Due.is("talk", x.talk(0, 5, 1), 0);
        Due.is("talk, the other way round", x.talk(5, 0, 1), 1);
        Due.is("two", x.count(3), 1);
        Due.is("talk of others", x.talk(5, 4, 1), 0);
        Due.is("four", x.count(3), 2);
        Due.is("talk ends", x.talk(5, 0, 0), 1);
        Due.is("talk has ended", x.talk(0, 5, 0), 0);
        Due.is("two are left", x.count(3), 1);
        Due.is("talk of one with itself", x.talk(2, 2, 1), Due.BAD);
    }

    private static void promise9And10() {
        NoonFields x = new NoonFields();
        int[] high = {8, 99, 4};
        int[] first = {8, 10, 1};
        for (int field = 0; field < 9; field++) {
            for (int what = 0; what < 3; what++) {
                Due.is("field at first", x.field(field, what), first[what]);
                Due.is("lays", x.lays(field, what, 0), first[what]);
                Due.is("field", x.field(field, what), 0);
                Due.is("lays", x.lays(field, what, high[what]), 0);
                Due.is("field", x.field(field, what), high[what]);
            }
        }
        for (int v : new int[] {LOW, -1, 9, HIGH}) {
            Due.is("field of none", x.field(v, 0), Due.BAD);
            Due.is("lays of none", x.lays(v, 0, 0), Due.BAD);
        }
        for (int v : new int[] {LOW, -1, 3, HIGH}) {
            Due.is("field: what", x.field(0, v), Due.BAD);
            Due.is("lays: what", x.lays(0, v, 0), Due.BAD);
        }
    }

    private static void promise11() {
        NoonFields x = new NoonFields();
        int[] of1 = {1, 0, 1, 2, 1, 2, 3, 2, 3};
        int[] of6 = {2, 3, 4, 1, 2, 3, 0, 1, 2};
        for (int k = 0; k < 9; k++) {
            Due.is("far of 1 and " + k, x.far(1, k), of1[k]);
            Due.is("far of " + k + " and 1", x.far(k, 1), of1[k]);
            Due.is("far of 6 and " + k, x.far(6, k), of6[k]);
        }
    }

    private static void promise12() {
        NoonFields x = new NoonFields();
        Due.is("late", x.late(100), 10);
        Due.is("late", x.late(0), 100);
        Due.is("LATE", x.count(2), 0);
    }

    private static void promise13And14() {
        NoonFields x = new NoonFields();
        Due.is("seed", x.seed(-5), 1);
        Due.is("z", x.count(7), -5);
        int z = -5;
        Due.is("deal", x.deal(1), 1);
        Due.is("deal", x.deal(2), 2);
        Due.is("deal", x.deal(8), 5);
        for (int one = 0; one < 8; one++) {
            z = z * 1103515245 + 12345;
            Due.is("KIND that is drawn", x.told(one, 0), (z >>> 8) % 6);
            z = z * 1103515245 + 12345;
            Due.is("HOME that is drawn", x.told(one, 1), (z >>> 8) % 9);
            z = z * 1103515245 + 12345;
            Due.is("HIRE that is drawn", x.told(one, 2), (z >>> 8) % 60);
        }
        Due.is("z behind it", x.count(7), z);
        Due.is("deal where there is no room", x.deal(8), 0);
        Due.is("no draws for others", x.count(7), z);
        Due.is("seed", x.seed(HIGH), z);
        Due.is("seed", x.seed(LOW), HIGH);
    }
}
