/** New objects for tests, made by few calls. */
final class Made {
    private Made() {
    }

    /**
     * One that holds something of everything: four of PEOPLE, TALK, TEXTS, AN IMAGE with two of its NOONS TOLD
     * waiting, SHEETS 0 (shorts) and 1 (floats), SLOTS 0 one of PEOPLE, 1 floats, 2 a number, 3 shorts, bytes.
     */
    static NoonFields busy() {
        NoonFields x = new NoonFields();
        x.seed(77);
        x.late(35);
        x.person(0, 4, 20);
        x.person(3, 0, 42);
        x.person(4, 8, 50);
        x.person(5, 2, 7);
        x.talk(0, 2, 1);
        x.lays(4, 0, 0);
        x.lays(1, 0, 3);
        x.lays(8, 1, 33);
        x.lays(0, 2, 2);
        Due.text(x, "walk d*7+c-h");
        x.noons(3);
        x.keep();
        for (int n = 1; n <= 2; n++) {
            x.tell(x.behind(n, 0));
            x.tell(x.behind(n, 2));
        }
        x.noons(4);
        x.turns(2, 2);
        Due.text(x, "fine h*3+c");
        rows(x);
        Due.feed(x, "toll s+100*l");
        return x;
    }

    private static void rows(NoonFields x) {
        x.sheet(0, 0, 3);
        x.mark(0, 1, 12);
        x.sheet(1, 1, 5);
        x.mark(1, 0, 99999);
        x.mark(1, 3, Due.NONE);
        x.lay(0, 1, 1);
        x.lay(1, 2, 1);
        x.lay(2, 3, -17);
        x.lay(3, 2, 0);
        x.mark(0, 1, 13);
    }

    /** One of each KIND by its number, all with HOME at home, for 10. */
    static NoonFields ofEachKind(int home) {
        NoonFields x = new NoonFields();
        for (int kind = 0; kind < 6; kind++) {
            x.person(kind, home, 10);
        }
        return x;
    }

    /** So many NEIGHBOURS at home on one FIELD; nobody is CAUGHT. */
    static NoonFields neighbours(int many, int home) {
        NoonFields x = new NoonFields();
        x.late(0);
        for (int k = 0; k < many; k++) {
            x.person(0, home, 0);
        }
        return x;
    }

    static void rooms(NoonFields x, int room) {
        for (int f = 0; f < 9; f++) {
            x.lays(f, 2, room);
        }
    }

    static void corn(NoonFields x, int corn) {
        for (int f = 0; f < 9; f++) {
            x.lays(f, 1, corn);
        }
    }

    /** THE NOON becomes n, by noons with whoever is there. */
    static void noonsUpTo(NoonFields x, int n) {
        for (int noon = x.count(1); noon < n; noon += 100) {
            x.noons(Math.min(100, n - noon));
        }
    }
}
