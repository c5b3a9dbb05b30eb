/** All that an object can be asked of; asking uses it up: what it held in SLOTS, THE TAPE and waiting is gone then. */
final class Everything {
    private Everything() {
    }

    static String of(NoonFields x) {
        StringBuilder all = new StringBuilder();
        state(x, all);
        all.append("| SLOTS ");
        for (int slot = 0; slot < 5; slot++) {
            slot(x, slot, all);
        }
        all.append("| SHEETS ");
        for (int sheet = 0; sheet < 4; sheet++) {
            add(all, x.lay(0, 0, 0));
            add(all, x.lay(0, 2, sheet));
            slot(x, 0, all);
        }
        all.append("| waiting ");
        add(all, x.check(2));
        all.append("| THE TAPE ");
        add(all, x.text());
        laws(x, all);
        all.append("| THE IMAGE ");
        add(all, x.back());
        state(x, all);
        return all.toString();
    }

    /** What calls that change nothing tell of all that AN IMAGE keeps, and counts. */
    static String told(NoonFields x) {
        StringBuilder all = new StringBuilder();
        int people = x.count(0);
        for (int one = 0; one < people; one++) {
            for (int what = 0; what < 6; what++) {
                add(all, x.told(one, what));
            }
        }
        for (int field = 0; field < 9; field++) {
            for (int what = 0; what < 3; what++) {
                add(all, x.field(field, what));
            }
        }
        for (int what = 0; what < 8; what++) {
            add(all, x.count(what));
        }
        add(all, x.year(0));
        add(all, x.year(1));
        laws(x, all);
        return all.toString();
    }

    private static void state(NoonFields x, StringBuilder all) {
        all.append(told(x)).append("| TALK ");
        int people = x.count(0);
        for (int one = 0; one < people; one++) {
            for (int other = one + 1; other < people; other++) {
                add(all, x.talk(one, other, 0));
            }
        }
    }

    private static void laws(NoonFields x, StringBuilder all) {
        for (int key = 0; key < 3; key++) {
            add(all, x.why(key));
        }
        add(all, x.toll());
        add(all, x.fine(0));
        add(all, x.walk(0, 0, 0));
        add(all, x.walk(0, 8, 0));
    }

    private static void slot(NoonFields x, int slot, StringBuilder all) {
        int number = x.rest(slot, Integer.MIN_VALUE);
        add(all, number);
        if (number != Due.KIND) {
            return;
        }
        int row = x.item(slot, 0);
        add(all, row);
        if (row == Due.KIND && x.ask(slot, 0) != Due.KIND) {
            for (int kind = 0; kind < 6; kind++) {
                add(all, x.ask(slot, kind));
            }
            return;
        }
        for (int place = 1; place <= 24 && x.item(slot, place - 1) != Due.INDEX; place++) {
            add(all, x.item(slot, place));
        }
    }

    private static void add(StringBuilder all, int v) {
        all.append(v).append(' ');
    }
}
