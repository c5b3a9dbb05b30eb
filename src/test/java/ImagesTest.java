/** Promises 41 to 45: numbers that wait, AN IMAGE, counts. */
final class ImagesTest {
    public static void main(String[] args) {
        promise41();
        promise42();
        promise42ByTheImage();
        promise43And44();
        promise45();
        Due.end("ImagesTest");
    }

    private static void tell(NoonFields x, int... v) {
        for (int k : v) {
            x.tell(k);
        }
    }

    private static void promise41() {
        NoonFields x = new NoonFields();
        for (int k = 1; k <= 60; k++) {
            Due.is("tell", x.tell(-k), k);
        }
        Due.is("the 61st", x.tell(0), Due.FULL);
        Due.is("60 wait", x.count(5), 60);
    }

    private static void promise42() {
        NoonFields x = new NoonFields();
        x.person(0, 4, 0);
        tell(x, 10, 89);
        Due.is("check without AN IMAGE", x.check(1), Due.NO);
        Due.is("none wait", x.count(5), 0);
        x.keep();
        int[] n = {0, 31, -1, Integer.MIN_VALUE, Integer.MAX_VALUE};
        for (int k : n) {
            tell(x, 10, 89);
            Due.is("check of " + k, x.check(k), Due.BAD);
            Due.is("none wait", x.count(5), 0);
        }
        tell(x, 10, 89, 19, 88);
        Due.is("as they are", x.check(2), 0);
        Due.is("none wait", x.count(5), 0);
        Due.is("none told", x.check(2), 1);
        tell(x, 10);
        Due.is("one missing", x.check(1), 2);
        tell(x, 10, 89);
        Due.is("the third missing", x.check(2), 3);
        tell(x, 10, 89, 19);
        Due.is("the third too many", x.check(1), 3);
        tell(x, 11, 89);
        Due.is("the first is not", x.check(1), 1);
        tell(x, 10, 88, 20);
        Due.is("the second is not", x.check(2), 2);
        tell(x, 10, 89, 19, 87);
        Due.is("the fourth is not", x.check(2), 4);
        for (int k = 0, steps = 0; k < 30; k++) {
            steps += k < 10 ? 10 - k : 0;
            tell(x, steps, Math.max(80, 89 - k));
        }
        Due.is("thirty", x.check(30), 0);
        Due.is("THE NOON as it was", x.count(1), 0);
    }

    private static void promise42ByTheImage() {
        NoonFields x = new NoonFields();
        x.person(0, 4, 0);
        x.noons(1);
        x.keep();
        x.lays(4, 1, 99);
        x.set(0, 1, 0);
        x.noons(50);
        tell(x, 19, 88, 27, 87);
        Due.is("by THE IMAGE, STEPS so far", x.check(2), 0);
        NoonFields y = new NoonFields();
        for (int k = 0; k < 99; k++) {
            y.noons(100);
        }
        y.noons(97);
        y.keep();
        y.noons(2);
        tell(y, 0, 90, 0, 90);
        Due.is("fewer: THE IMAGE's NOON is 9997", y.check(30), 0);
        tell(y, 0, 90, 0, 90, 0);
        Due.is("fewer, one too many", y.check(30), 5);
        tell(y, 0, 90);
        Due.is("one alone", y.check(1), 0);
    }

    private static void promise43And44() {
        NoonFields x = new NoonFields();
        Due.is("back without AN IMAGE", x.back(), Due.NO);
        x.seed(5);
        x.deal(3);
        x.talk(0, 1, 1);
        x.lays(2, 0, 1);
        x.lays(3, 1, 33);
        x.lays(4, 2, 3);
        x.late(50);
        x.noons(9);
        Due.text(x, "walk d*3", 0);
        Due.is("keep", x.keep(), 3);
        String kept = Everything.told(x);
        int ahead = x.behind(50, 0);
        for (int again = 0; again < 3; again++) {
            x.deal(5);
            x.talk(0, 1, 0);
            x.talk(2, 7, 1);
            x.turns(0, again);
            x.set(1, 1, again);
            x.lays(2, 0, 7);
            x.lays(3, 1, 1);
            x.lays(4, 2, 0);
            x.late(again);
            x.seed(again);
            Due.text(x, "walk 9-d", 1);
            Due.text(x, "fine 4", 2);
            x.noons(20);
            Due.is("back", x.back(), 3);
            Due.isSame("all is back", Everything.told(x), kept);
            Due.is("what will be is back", x.behind(50, 0), ahead);
        }
        Due.is("a new one comes anew", x.person(0, 0, 0), 3);
        Due.is("no HAD", x.told(3, 3), 0);
        Due.is("no HOURS", x.told(3, 4), 0);
        Due.is("no CAUGHT", x.told(3, 5), 0);
        Due.is("no TALK", x.count(3), 1);
        Due.is("keep anew", x.keep(), 4);
        x.person(0, 0, 0);
        Due.is("back to the new one", x.back(), 4);
        notKept();
    }

    private static void notKept() {
        NoonFields x = new NoonFields();
        x.person(0, 0, 0);
        x.keep();
        x.sheet(0, 0, 3);
        x.lay(0, 3, 7);
        x.tell(4);
        x.feed(1, 2, 3);
        x.back();
        Due.is("SHEETS stay", x.mark(0, 2, 1), 1);
        Due.is("SLOTS stay", x.rest(0, 5), 2);
        Due.is("numbers that wait stay", x.count(5), 1);
        Due.is("THE TAPE stays", x.count(6), 12);
    }

    private static void promise45() {
        NoonFields x = new NoonFields();
        x.deal(4);
        x.late(33);
        x.talk(0, 1, 1);
        x.talk(2, 1, 1);
        x.talk(2, 3, 1);
        Due.text(x, "toll s", 0);
        Due.text(x, "toll l", 1);
        tell(x, 1, 2, 3, 4, 5);
        x.feed(0, 0, 0);
        x.trim(11);
        x.noons(6);
        x.seed(-9);
        int[] due = {4, 6, 33, 3, 2, 5, 11, -9};
        for (int what = 0; what < 8; what++) {
            Due.is("count " + what, x.count(what), due[what]);
        }
    }
}
