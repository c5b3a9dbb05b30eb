/** At noon on another's land: the promises that each method keeps stand in ../shared/DOC.md. */
public final class NoonFields {
    public static final int BAD = -1000000001, NO = -1000000002, FULL = -1000000003, NONE = -1000000005,
            NOTHING = -1000000011, KIND = -1000000012, INDEX = -1000000013, SIZE = -1000000014;

    private static final int FIELDS = 9, IN_A_ROW = 3, PEOPLE = 8, NOBODY = 8, LAST_NOON = 9999;
    private static final int NEIGHBOUR = 0, LAME = 1, RUNNER = 2, OLD = 3, CHILD = 4, HERMIT = 5, KINDS = 6;
    private static final int OF_KIND = 0, HOME = 1, HIRE = 2, HAD = 3, HOURS = 4, CAUGHT = 5;
    private static final int OWNER = 0, CORN = 1, ROOM = 2;
    private static final int NOWHERE = -1, NO_ONE = -1;
    private static final int MOST_PLACED = 5, MOST_WAITING = 60, MOST_SOLD_NOONS = 60, MOST_NOONS = 100;
    private static final int BYTES = 96, TEXTS = 14, WALK = 0, TOLL = 1, FINE = 2, KEYS = 3;
    private static final int MISSING = -1, SHORTS = 0, FLOATS = 1, SHEETS = 4, PLACES = 24, SLOTS = 5;

    private final Neighbour[] kinds = new Neighbour[] {
        new Neighbour(), new Lame(), new Runner(), new Old(), new Child(), new Hermit()
    };
    private final Laws laws = new Laws();
    private final World now = new World(kinds, laws);
    private final World image = new World(kinds, laws);
    private final World thought = new World(kinds, laws);
    private final Tape tape = new Tape();
    private final Sheet[] sheets = new Sheet[SHEETS];
    private final Slot[] slots = new Slot[SLOTS];
    private final int[] waiting = new int[MOST_WAITING];
    private final int[] pairs = new int[PEOPLE * PEOPLE];
    private final int[] walks = new int[MOST_PLACED * FIELDS];
    private int waits = 0;
    private boolean kept = false;
    private int leastWalk = -1;
    private int leastFields = 0;

    public NoonFields() {
        for (int k = 0; k < sheets.length; k++) {
            sheets[k] = new Sheet();
        }
        for (int k = 0; k < slots.length; k++) {
            slots[k] = new Slot();
        }
    }

    // ---- people, fields

    public int person(int kind, int home, int hire) {
        if (!isUpTo(kind, KINDS - 1) || !isUpTo(home, FIELDS - 1) || !isUpTo(hire, 99)) {
            return BAD;
        }
        return now.come(kind, home, hire);
    }

    public int told(int one, int what) {
        if (!now.isOne(one) || !isUpTo(what, 6)) {
            return BAD;
        }
        return what == 6 ? now.worthOf(one) : now.people[what][one];
    }

    public int walk(int one, int field, int what) {
        if (!now.isOne(one) || !isUpTo(field, FIELDS - 1) || !isUpTo(what, 1)) {
            return BAD;
        }
        return what == 0 ? now.walkOf(one, field) : now.mayStand(one, field) ? 1 : 0;
    }

    public int as(int one, int kind) {
        if (!now.isOne(one) || !isUpTo(kind, KINDS - 1)) {
            return BAD;
        }
        return now.kindOf(one).isOf(kind) ? now.people[HIRE][one] : KIND;
    }

    public int turns(int one, int kind) {
        if (!now.isOne(one) || !isUpTo(kind, KINDS - 1)) {
            return BAD;
        }
        return exchange(now.people[OF_KIND], one, kind);
    }

    public int set(int one, int what, int v) {
        if (!now.isOne(one) || (what != HOME && what != HIRE)) {
            return BAD;
        }
        if (!isUpTo(v, what == HOME ? FIELDS - 1 : 99)) {
            return BAD;
        }
        return exchange(now.people[what], one, v);
    }

    public int talk(int one, int other, int v) {
        if (!now.isOne(one) || !now.isOne(other) || one == other || !isUpTo(v, 1)) {
            return BAD;
        }
        int was = now.isTalk(one, other) ? 1 : 0;
        if (was != v) {
            now.talk[one] ^= 1 << other;
            now.talk[other] ^= 1 << one;
        }
        return was;
    }

    public int field(int field, int what) {
        if (!isUpTo(field, FIELDS - 1) || !isUpTo(what, 2)) {
            return BAD;
        }
        return now.fields[what][field];
    }

    public int lays(int field, int what, int v) {
        if (!isUpTo(field, FIELDS - 1) || !isUpTo(what, 2)) {
            return BAD;
        }
        if (!isUpTo(v, what == OWNER ? NOBODY : what == CORN ? 99 : 4)) {
            return BAD;
        }
        return exchange(now.fields[what], field, v);
    }

    public int far(int one, int other) {
        if (!isUpTo(one, FIELDS - 1) || !isUpTo(other, FIELDS - 1)) {
            return BAD;
        }
        return World.apart(one, other);
    }

    public int late(int v) {
        if (!isUpTo(v, 100)) {
            return BAD;
        }
        int was = now.late;
        now.late = v;
        return was;
    }

    public int deal(int n) {
        if (n < 1 || n > PEOPLE) {
            return BAD;
        }
        int many = Math.min(n, PEOPLE - now.count);
        for (int k = 0; k < many; k++) {
            int kind = now.draw() % KINDS;
            int home = now.draw() % FIELDS;
            int hire = now.draw() % 60;
            now.come(kind, home, hire);
        }
        return many;
    }

    public int seed(int v) {
        int was = now.z;
        now.z = v;
        return was;
    }

    // ---- noons

    public int noons(int n) {
        if (n < 1 || n > MOST_NOONS) {
            return BAD;
        }
        int was = now.left;
        now.pass(Math.min(n, LAST_NOON - now.noon), NO_ONE);
        return now.left - was;
    }

    public int year(int what) {
        switch (what) {
            case 0: return now.steps;
            case 1: return now.left;
            case 2: return World.sum(now.fields[CORN]);
            case 3: return World.sum(now.people[CAUGHT]);
            case 4: return World.sum(now.people[HOURS]);
            default: return BAD;
        }
    }

    public int best(int what) {
        if (!isUpTo(what, 1)) {
            return BAD;
        }
        if (now.count < 1 || now.count > MOST_PLACED) {
            return NONE;
        }
        thought.become(now);
        thought.standNowhere();
        measureWalks();
        leastWalk = -1;
        place(0, 0, 0);
        if (leastWalk < 0) {
            return NONE;
        }
        return what == 0 ? leastWalk : leastFields;
    }

    // A placing asks for the same walks again and again, and CORN stays as it is in all of them.
    private void measureWalks() {
        for (int one = 0; one < thought.count && one < MOST_PLACED; one++) {
            for (int f = 0; f < FIELDS; f++) {
                walks[one * FIELDS + f] = thought.mayStand(one, f) ? thought.walkOf(one, f) : NOWHERE;
            }
        }
    }

    // No walk is below 0, so a way that is not better by now is not better at its end; of equal ways the
    // first in order is found first and stays.
    private void place(int one, int walk, int digits) {
        if (leastWalk >= 0 && walk >= leastWalk) {
            return;
        }
        if (one >= thought.count || one >= MOST_PLACED) {
            leastWalk = walk;
            leastFields = digits;
            return;
        }
        placeOnEach(one, walk, digits);
    }

    private void placeOnEach(int one, int walk, int digits) {
        for (int f = 0; f < FIELDS; f++) {
            int more = walks[one * FIELDS + f];
            if (more >= 0 && thought.hasRoom(one, f)) {
                thought.stands[one] = f;
                place(one + 1, walk + more, digits * FIELDS + f);
            }
        }
        thought.stands[one] = NOWHERE;
    }

    // ---- what will be

    public int behind(int n, int what) {
        if (!isUpTo(n, MOST_NOONS) || !isUpTo(what, 3)) {
            return BAD;
        }
        think(n);
        switch (what) {
            case 0: return thought.steps;
            case 1: return thought.left;
            case 2: return World.sum(thought.fields[CORN]);
            default: return World.sum(thought.people[CAUGHT]);
        }
    }

    public int has(int one, int n, int what) {
        if (!now.isOne(one) || !isUpTo(n, MOST_NOONS) || !isUpTo(what, 1)) {
            return BAD;
        }
        think(n);
        return thought.people[what == 0 ? HOURS : HAD][one];
    }

    public int rota(int m) {
        if (!isUpTo(m, FIELDS)) {
            return BAD;
        }
        thought.become(now);
        for (int k = 0; k <= MOST_NOONS; k++) {
            if (thought.allHad(m)) {
                return k;
            }
            thought.pass(1, NO_ONE);
        }
        return NONE;
    }

    public int sold(int field, int one, int n) {
        if (!isUpTo(field, FIELDS - 1) || !now.isOne(one) || n < 1 || n > MOST_SOLD_NOONS) {
            return BAD;
        }
        think(n);
        int asItIs = thought.steps;
        thinkOwned(field, one, n);
        return thought.steps - asItIs;
    }

    public int nobodys(int n, int what) {
        if (n < 1 || n > MOST_SOLD_NOONS || !isUpTo(what, 1)) {
            return BAD;
        }
        int field = 0;
        int least = 0;
        for (int f = 0; f < FIELDS; f++) {
            thinkOwned(f, NOBODY, n);
            int sum = thought.steps + 100 * thought.left;
            if (f == 0 || sum < least) {
                field = f;
                least = sum;
            }
        }
        return what == 0 ? field : least;
    }

    public int beside(int n, int what) {
        if (n < 1 || n > MOST_SOLD_NOONS || !isUpTo(what, 1)) {
            return BAD;
        }
        countPairs(n);
        int pair = NO_ONE;
        int most = 0;
        for (int k = 0; k < pairs.length; k++) {
            if (pairs[k] > most) {
                pair = k;
                most = pairs[k];
            }
        }
        if (pair == NO_ONE) {
            return NONE;
        }
        return what == 0 ? 10 * (pair / PEOPLE) + pair % PEOPLE : most;
    }

    private void countPairs(int n) {
        for (int k = 0; k < pairs.length; k++) {
            pairs[k] = 0;
        }
        thought.become(now);
        for (int k = 0; k < n; k++) {
            thought.pass(1, NO_ONE);
            for (int one = 0; one < thought.count; one++) {
                for (int other = one + 1; other < thought.count; other++) {
                    if (thought.standTogether(one, other)) {
                        pairs[one * PEOPLE + other]++;
                    }
                }
            }
        }
    }

    public int atHome(int sheet, int n, int what) {
        if (!isUpTo(sheet, SHEETS - 1) || !isUpTo(n, MOST_SOLD_NOONS) || !isUpTo(what, 1)) {
            return BAD;
        }
        if (sheets[sheet].isMissing()) {
            return NOTHING;
        }
        int who = NO_ONE;
        int least = 0;
        for (int one = 0; one < now.count; one++) {
            thought.become(now);
            thought.pass(n, one);
            int differences = sheets[sheet].differences(thought.fields[CORN]);
            if (who == NO_ONE || differences < least) {
                who = one;
                least = differences;
            }
        }
        if (who == NO_ONE) {
            return NONE;
        }
        return what == 0 ? who : least;
    }

    private void think(int n) {
        thought.become(now);
        thought.pass(n, NO_ONE);
    }

    private void thinkOwned(int field, int owner, int n) {
        thought.become(now);
        thought.fields[OWNER][field] = owner;
        thought.pass(n, NO_ONE);
    }

    public int toll() {
        int text = now.counting[TOLL];
        return text < 0 ? now.steps : laws.gives(text, now.steps, now.left, 0);
    }

    public int fine(int one) {
        if (!now.isOne(one)) {
            return BAD;
        }
        int text = now.counting[FINE];
        int hours = now.people[HOURS][one];
        return text < 0 ? hours : laws.gives(text, hours, now.people[CAUGHT][one], 0);
    }

    // ---- texts

    public int feed(int a, int b, int c) {
        if (tape.length > BYTES - 12) {
            return FULL;
        }
        tape.append(a);
        tape.append(b);
        tape.append(c);
        return tape.length;
    }

    public int trim(int n) {
        if (!isUpTo(n, tape.length)) {
            return BAD;
        }
        tape.length = n;
        return n;
    }

    public int text() {
        boolean isText = tape.parse();
        tape.length = 0;
        if (!isText) {
            return -100 - tape.start;
        }
        if (now.texts >= TEXTS) {
            return FULL;
        }
        int text = now.texts;
        laws.enact(text, tape);
        now.counting[tape.key] = text;
        now.texts++;
        return text;
    }

    public int textTold(int text, int what) {
        if (!isUpTo(text, now.texts - 1) || !isUpTo(what, 1)) {
            return BAD;
        }
        return what == 0 ? laws.keys[text] : laws.operands[text];
    }

    public int why(int key) {
        if (!isUpTo(key, KEYS - 1)) {
            return BAD;
        }
        return now.counting[key] < 0 ? NONE : now.counting[key];
    }

    // ---- sheets, slots

    public int sheet(int sheet, int sort, int n) {
        if (!isUpTo(sheet, SHEETS - 1) || sort < MISSING || sort > FLOATS) {
            return BAD;
        }
        if (sort == MISSING) {
            sheets[sheet].clear(MISSING, 0);
            return 0;
        }
        if (n > PLACES) {
            return BAD;
        }
        if (n < 0) {
            return SIZE;
        }
        sheets[sheet].clear(sort, n);
        return n;
    }

    public int mark(int sheet, int place, int v) {
        if (!isUpTo(sheet, SHEETS - 1)) {
            return BAD;
        }
        Sheet row = sheets[sheet];
        if (row.isMissing()) {
            return NOTHING;
        }
        if (!row.hasPlace(place)) {
            return INDEX;
        }
        if (row.sort == SHORTS && v == NONE) {
            return KIND;
        }
        if (row.sort == FLOATS && v != NONE && (v < -99999 || v > 99999)) {
            return BAD;
        }
        row.put(place, v);
        return 1;
    }

    public int pour(int sheet) {
        if (!isUpTo(sheet, SHEETS - 1)) {
            return BAD;
        }
        Sheet row = sheets[sheet];
        if (row.isMissing()) {
            return NOTHING;
        }
        int others = 0;
        for (int f = 0; f < FIELDS; f++) {
            if (row.isNumber(f)) {
                int corn = Math.max(0, Math.min(99, row.values[f]));
                others += exchange(now.fields[CORN], f, corn) == corn ? 0 : 1;
            }
        }
        return others;
    }

    public int reads(int sheet) {
        if (!isUpTo(sheet, SHEETS - 1)) {
            return BAD;
        }
        Sheet row = sheets[sheet];
        if (row.isMissing()) {
            return NOTHING;
        }
        for (int k = 0; k < row.places; k++) {
            if (row.isNumber(k) && (!now.isOne(k) || row.values[k] != now.people[HOURS][k])) {
                return k;
            }
        }
        return NONE;
    }

    public int copy(int from, int place, int to, int at, int many) {
        if (!isUpTo(from, SHEETS - 1) || !isUpTo(to, SHEETS - 1)) {
            return BAD;
        }
        Sheet source = sheets[from];
        Sheet goal = sheets[to];
        if (source.isMissing() || goal.isMissing()) {
            return NOTHING;
        }
        if (source.sort != goal.sort) {
            return KIND;
        }
        if (!source.hasPlaces(place, many) || !goal.hasPlaces(at, many)) {
            return INDEX;
        }
        goal.take(source, place, at, many);
        return many;
    }

    public int lay(int slot, int thing, int k) {
        if (!isUpTo(slot, SLOTS - 1) || !isUpTo(thing, Slot.NUMBER)) {
            return BAD;
        }
        if (thing == Slot.ONE && !now.isOne(k)) {
            return BAD;
        }
        if (thing == Slot.ROW && !isUpTo(k, SHEETS - 1)) {
            return BAD;
        }
        if (thing == Slot.ROW && sheets[k].isMissing()) {
            return NOTHING;
        }
        int held = slots[slot].holds;
        slots[slot].holds = thing;
        if (thing == Slot.ONE) {
            slots[slot].holdOne(now.kindOf(k), now.people[HIRE][k]);
        } else if (thing == Slot.ROW) {
            slots[slot].row.become(sheets[k]);
        } else if (thing == Slot.NUMBER) {
            slots[slot].number = k;
        }
        return held;
    }

    public int ask(int slot, int kind) {
        if (!isUpTo(slot, SLOTS - 1) || !isUpTo(kind, KINDS - 1)) {
            return BAD;
        }
        Slot held = slots[slot];
        if (held.holds == Slot.EMPTY) {
            return NOTHING;
        }
        if (held.holds != Slot.ONE || held.kind == null || !held.kind.isOf(kind)) {
            return KIND;
        }
        return held.kind.worthFor(held.hire);
    }

    public int item(int slot, int place) {
        if (!isUpTo(slot, SLOTS - 1)) {
            return BAD;
        }
        Slot held = slots[slot];
        if (held.holds == Slot.EMPTY) {
            return NOTHING;
        }
        if (held.holds != Slot.ROW) {
            return KIND;
        }
        if (!held.row.hasPlace(place)) {
            return INDEX;
        }
        return held.row.isNumber(place) ? held.row.values[place] : KIND;
    }

    public int rest(int slot, int n) {
        if (!isUpTo(slot, SLOTS - 1)) {
            return BAD;
        }
        Slot held = slots[slot];
        if (held.holds == Slot.EMPTY) {
            return NOTHING;
        }
        if (held.holds != Slot.NUMBER) {
            return KIND;
        }
        return n == 0 ? NO : held.number % n;
    }

    // ---- rows, images

    public int tell(int v) {
        if (waits >= MOST_WAITING) {
            return FULL;
        }
        waiting[waits] = v;
        waits++;
        return waits;
    }

    public int check(int n) {
        int told = waits;
        waits = 0;
        if (n < 1 || n > MOST_WAITING / 2) {
            return BAD;
        }
        if (!kept) {
            return NO;
        }
        int many = Math.min(n, LAST_NOON - image.noon);
        thought.become(image);
        for (int k = 0; k < many; k++) {
            thought.pass(1, NO_ONE);
            if (!isTold(2 * k, told, thought.steps)) {
                return 1 + 2 * k;
            }
            if (!isTold(2 * k + 1, told, World.sum(thought.fields[CORN]))) {
                return 2 + 2 * k;
            }
        }
        return told > 2 * many ? 1 + 2 * many : 0;
    }

    private boolean isTold(int place, int told, int v) {
        return place < told && place < waiting.length && waiting[place] == v;
    }

    public int keep() {
        image.become(now);
        kept = true;
        return now.count;
    }

    public int back() {
        if (!kept) {
            return NO;
        }
        now.become(image);
        return now.count;
    }

    public int count(int what) {
        switch (what) {
            case 0: return now.count;
            case 1: return now.noon;
            case 2: return now.late;
            case 3: return now.talks();
            case 4: return now.texts;
            case 5: return waits;
            case 6: return tape.length;
            case 7: return now.z;
            default: return BAD;
        }
    }

    private static boolean isUpTo(int v, int most) {
        return v >= 0 && v <= most;
    }

    private static int exchange(int[] row, int place, int v) {
        int was = row[place];
        row[place] = v;
        return was;
    }

    // ---- the kinds, each under the one whose class it goes on from

    static class Neighbour {
        boolean isOf(int kind) {
            return kind == NEIGHBOUR;
        }

        int paces(int plain) {
            return plain;
        }

        boolean mayBeOn(boolean own, int far, int corn) {
            return !own;
        }

        int worthFor(int hire) {
            return hire;
        }
    }

    static class Lame extends Neighbour {
        boolean isOf(int kind) {
            return kind == LAME || super.isOf(kind);
        }

        int paces(int plain) {
            return 2 * plain;
        }

        int worthFor(int hire) {
            return hire + 4;
        }
    }

    static class Runner extends Neighbour {
        boolean isOf(int kind) {
            return kind == RUNNER || super.isOf(kind);
        }

        int paces(int plain) {
            return plain / 2;
        }

        int worthFor(int hire) {
            return 99 - hire;
        }
    }

    static final class Old extends Lame {
        boolean isOf(int kind) {
            return kind == OLD || super.isOf(kind);
        }

        int paces(int plain) {
            return super.paces(plain) + 5;
        }

        boolean mayBeOn(boolean own, int far, int corn) {
            return super.mayBeOn(own, far, corn) && far <= 2;
        }

        int worthFor(int hire) {
            return 2 * super.worthFor(hire);
        }
    }

    static final class Child extends Runner {
        boolean isOf(int kind) {
            return kind == CHILD || super.isOf(kind);
        }

        int paces(int plain) {
            return Math.max(0, super.paces(plain) - 3);
        }

        boolean mayBeOn(boolean own, int far, int corn) {
            return super.mayBeOn(own, far, corn) || corn == 0;
        }

        int worthFor(int hire) {
            return super.worthFor(hire) - 6;
        }
    }

    static final class Hermit extends Neighbour {
        boolean isOf(int kind) {
            return kind == HERMIT || super.isOf(kind);
        }

        int paces(int plain) {
            return 0;
        }

        boolean mayBeOn(boolean own, int far, int corn) {
            return true;
        }

        int worthFor(int hire) {
            return 3;
        }
    }

    /** All that an image keeps: as it is now, as it was kept, or as it is thought to become. */
    static final class World {
        final Neighbour[] kinds;
        final Laws laws;
        final int[][] people = new int[6][PEOPLE];
        final int[][] fields = new int[3][FIELDS];
        final int[] talk = new int[PEOPLE];
        final int[] stands = new int[PEOPLE];
        final int[] counting = new int[KEYS];
        int count = 0;
        int noon = 0;
        int late = 10;
        int steps = 0;
        int left = 0;
        int z = 1;
        int texts = 0;

        World(Neighbour[] kinds, Laws laws) {
            this.kinds = kinds;
            this.laws = laws;
            for (int f = 0; f < FIELDS; f++) {
                fields[OWNER][f] = NOBODY;
                fields[CORN][f] = 10;
                fields[ROOM][f] = 1;
            }
            for (int key = 0; key < KEYS; key++) {
                counting[key] = -1;
            }
        }

        // Where people stand is left out: it is of a noon alone, and each noon begins with nobody standing.
        void become(World other) {
            for (int k = 0; k < people.length; k++) {
                System.arraycopy(other.people[k], 0, people[k], 0, PEOPLE);
            }
            for (int k = 0; k < fields.length; k++) {
                System.arraycopy(other.fields[k], 0, fields[k], 0, FIELDS);
            }
            System.arraycopy(other.talk, 0, talk, 0, PEOPLE);
            System.arraycopy(other.counting, 0, counting, 0, KEYS);
            count = other.count;
            noon = other.noon;
            late = other.late;
            steps = other.steps;
            left = other.left;
            z = other.z;
            texts = other.texts;
        }

        int come(int kind, int home, int hire) {
            if (count >= PEOPLE) {
                return FULL;
            }
            int one = count;
            people[OF_KIND][one] = kind;
            people[HOME][one] = home;
            people[HIRE][one] = hire;
            count++;
            return one;
        }

        boolean isOne(int one) {
            return one >= 0 && one < count;
        }

        Neighbour kindOf(int one) {
            return kinds[people[OF_KIND][one]];
        }

        int worthOf(int one) {
            return kindOf(one).worthFor(people[HIRE][one]);
        }

        boolean isTalk(int one, int other) {
            return (talk[one] >> other & 1) == 1;
        }

        int talks() {
            int ends = 0;
            for (int one = 0; one < count; one++) {
                ends += Integer.bitCount(talk[one]);
            }
            return ends / 2;
        }

        boolean allHad(int m) {
            for (int one = 0; one < count; one++) {
                if (Integer.bitCount(people[HAD][one]) < m) {
                    return false;
                }
            }
            return true;
        }

        boolean standTogether(int one, int other) {
            return stands[one] != NOWHERE && stands[one] == stands[other];
        }

        static int sum(int[] row) {
            int sum = 0;
            for (int k = 0; k < row.length; k++) {
                sum += row[k];
            }
            return sum;
        }

        static int apart(int one, int other) {
            return Math.abs(one / IN_A_ROW - other / IN_A_ROW) + Math.abs(one % IN_A_ROW - other % IN_A_ROW);
        }

        int walkOf(int one, int field) {
            int far = apart(people[HOME][one], field);
            int corn = fields[CORN][field];
            int text = counting[WALK];
            int plain = 10 * far + corn;
            if (text >= 0) {
                int had = people[HAD][one] >> field & 1;
                plain = Math.max(0, Math.min(999, laws.gives(text, far, corn, had)));
            }
            return kindOf(one).paces(plain);
        }

        boolean mayStand(int one, int field) {
            int far = apart(people[HOME][one], field);
            return kindOf(one).mayBeOn(fields[OWNER][field] == one, far, fields[CORN][field]);
        }

        boolean hasRoom(int one, int field) {
            int standing = 0;
            for (int other = 0; other < count; other++) {
                if (other != one && stands[other] == field) {
                    if (isTalk(one, other)) {
                        return false;
                    }
                    standing++;
                }
            }
            return standing < fields[ROOM][field];
        }

        void standNowhere() {
            for (int one = 0; one < PEOPLE; one++) {
                stands[one] = NOWHERE;
            }
        }

        int draw() {
            z = z * 1103515245 + 12345;
            return z >>> 8;
        }

        /** So many noons, without one (NO_ONE: with all). */
        void pass(int n, int without) {
            for (int passed = 0; passed < n; passed++) {
                standNowhere();
                for (int k = 0; k < count; k++) {
                    int one = (noon + k) % count;
                    if (one != without) {
                        setOut(one);
                    }
                }
                // The draw comes at every noon, also where nobody could be caught.
                if (draw() % 100 < late) {
                    catchNearHome();
                }
                noon++;
            }
        }

        private void setOut(int one) {
            int to = NOWHERE;
            int least = 0;
            for (int f = 0; f < FIELDS; f++) {
                if (mayStand(one, f) && hasRoom(one, f)) {
                    int walk = walkOf(one, f);
                    if (to == NOWHERE || walk < least) {
                        to = f;
                        least = walk;
                    }
                }
            }
            if (to == NOWHERE) {
                left++;
            } else {
                steps += least;
                arrive(one, to);
            }
        }

        private void arrive(int one, int field) {
            stands[one] = field;
            fields[CORN][field] = Math.max(0, fields[CORN][field] - 1);
            people[HAD][one] |= 1 << field;
            int owner = fields[OWNER][field];
            if (owner != one && isOne(owner)) {
                people[HOURS][owner]++;
            }
        }

        private void catchNearHome() {
            for (int one = 0; one < count; one++) {
                if (stands[one] != NOWHERE && apart(people[HOME][one], stands[one]) <= 1) {
                    people[CAUGHT][one]++;
                }
            }
        }
    }

    /**
     * The texts, each as a row of numbers to be worked out from left to right: a NUMBER stands for itself, what
     * is NAME or more for a name, what is below 0 for a sign with what it joins ahead of it.
     */
    static final class Laws {
        static final int NAME = 10000;
        final int[][] codes = new int[TEXTS][BYTES];
        final int[] lengths = new int[TEXTS];
        final int[] keys = new int[TEXTS];
        final int[] operands = new int[TEXTS];
        final int[] stack = new int[BYTES];

        // A later text never writes over one that an image counts on: an image has no more texts than are told.
        void enact(int text, Tape tape) {
            System.arraycopy(tape.code, 0, codes[text], 0, BYTES);
            lengths[text] = tape.codeLength;
            keys[text] = tape.key;
            operands[text] = tape.operands;
        }

        int gives(int text, int first, int second, int third) {
            int top = 0;
            for (int k = 0; k < lengths[text]; k++) {
                int op = codes[text][k];
                if (op == -'!' && top >= 1) {
                    stack[top - 1] = stack[top - 1] == 0 ? 1 : 0;
                } else if (op < 0 && top >= 2) {
                    top--;
                    stack[top - 1] = join(-op, stack[top - 1], stack[top]);
                } else if (op >= 0 && top < stack.length) {
                    stack[top] = op < NAME ? op : op == NAME ? first : op == NAME + 1 ? second : third;
                    top++;
                }
            }
            return stack[0];
        }

        private static int join(int sign, int a, int b) {
            switch (sign) {
                case '|': return a != 0 || b != 0 ? 1 : 0;
                case '&': return a != 0 && b != 0 ? 1 : 0;
                case '<': return a < b ? 1 : 0;
                case '=': return a == b ? 1 : 0;
                case '>': return a > b ? 1 : 0;
                case '+': return a + b;
                case '-': return a - b;
                case '*': return a * b;
                default: return b == 0 ? 0 : a / b;
            }
        }
    }

    /** The tape, and the reading of it as a text, one word or sign ahead. */
    static final class Tape {
        static final int LETTERS = 256, DIGITS = 257, END = 258;
        static final int TESTS = 2, PIECES = 5, DEEPEST = 8;
        final int[] bytes = new int[BYTES];
        final int[] code = new int[BYTES];
        int length = 0;
        int codeLength = 0;
        int key = 0;
        int operands = 0;
        /** Where the word or sign ahead begins: where reading stops, the place of the FAULT. */
        int start = 0;
        private int end = 0;
        private int sign = END;
        private boolean isGlued = false;

        void append(int number) {
            for (int shift = 24; shift >= 0 && length < BYTES; shift -= 8) {
                bytes[length] = number >>> shift & 255;
                length++;
            }
        }

        boolean parse() {
            codeLength = 0;
            operands = 0;
            end = 0;
            sign = END;
            advance();
            key = keyAhead();
            if (key < 0) {
                key = 0;
                return false;
            }
            advance();
            return expression(0, 0, 0) && sign == END;
        }

        private int keyAhead() {
            return isAhead("walk") ? WALK : isAhead("toll") ? TOLL : isAhead("fine") ? FINE : -1;
        }

        private boolean isAhead(String word) {
            if (end - start != word.length()) {
                return false;
            }
            for (int k = 0; k < word.length(); k++) {
                if (bytes[start + k] != word.charAt(k)) {
                    return false;
                }
            }
            return true;
        }

        private void advance() {
            int behind = end;
            boolean wasWord = sign == LETTERS || sign == DIGITS;
            start = end;
            while (start < length && bytes[start] == ' ') {
                start++;
            }
            sign = start < length ? signOf(bytes[start]) : END;
            end = sign == END ? start : start + 1;
            boolean isWord = sign == LETTERS || sign == DIGITS;
            while (isWord && end < length && signOf(bytes[end]) == sign) {
                end++;
            }
            isGlued = wasWord && isWord && start == behind;
        }

        private static int signOf(int b) {
            return b >= 'a' && b <= 'z' ? LETTERS : b >= '0' && b <= '9' ? DIGITS : b;
        }

        // Levels from the loosest on: | 0, & 1, tests 2, sums 3, terms 4. A test joins two sums at most.
        private boolean expression(int level, int parentheses, int nots) {
            if (level >= PIECES) {
                return piece(parentheses, nots);
            }
            if (!expression(level + 1, parentheses, nots)) {
                return false;
            }
            int most = level == TESTS ? 1 : BYTES;
            for (int k = 0; k < most && levelOf(sign) == level; k++) {
                int joins = sign;
                advance();
                if (!expression(level + 1, parentheses, nots)) {
                    return false;
                }
                emit(-joins);
            }
            return true;
        }

        private static int levelOf(int sign) {
            switch (sign) {
                case '|': return 0;
                case '&': return 1;
                case '<': case '=': case '>': return TESTS;
                case '+': case '-': return 3;
                case '*': case '/': return 4;
                default: return -1;
            }
        }

        private boolean piece(int parentheses, int nots) {
            switch (sign) {
                case DIGITS: return !isGlued && end - start <= 4 && operand(number());
                case LETTERS: return !isGlued && name() >= 0 && operand(Laws.NAME + name());
                case '!': return nots < DEEPEST && negation(parentheses, nots + 1);
                case '(': return parentheses < DEEPEST && bracket(parentheses + 1, nots);
                default: return false;
            }
        }

        private boolean negation(int parentheses, int nots) {
            advance();
            if (!piece(parentheses, nots)) {
                return false;
            }
            emit(-'!');
            return true;
        }

        private boolean bracket(int parentheses, int nots) {
            advance();
            if (!expression(0, parentheses, nots) || sign != ')') {
                return false;
            }
            advance();
            return true;
        }

        private boolean operand(int op) {
            emit(op);
            operands++;
            advance();
            return true;
        }

        private int number() {
            int number = 0;
            for (int k = start; k < end && k < BYTES; k++) {
                number = 10 * number + bytes[k] - '0';
            }
            return number;
        }

        /** Which of the names of the KEY the word ahead is, from 0; -1: none. */
        private int name() {
            if (end - start != 1) {
                return -1;
            }
            String names = key == WALK ? "dch" : key == TOLL ? "sl" : "hc";
            return names.indexOf((char) bytes[start]);
        }

        private void emit(int op) {
            if (codeLength < BYTES) {
                code[codeLength] = op;
                codeLength++;
            }
        }
    }

    /** A row of shorts or floats: floats are whole and small enough to be held as ints. */
    static final class Sheet {
        final int[] values = new int[PLACES];
        final boolean[] noNumber = new boolean[PLACES];
        int sort = MISSING;
        int places = 0;

        boolean isMissing() {
            return sort == MISSING;
        }

        boolean hasPlace(int place) {
            return place >= 0 && place < places;
        }

        // Not place + many: that could wrap.
        boolean hasPlaces(int place, int many) {
            return place >= 0 && place <= places && many >= 0 && many <= places - place;
        }

        boolean isNumber(int place) {
            return hasPlace(place) && !noNumber[place];
        }

        void clear(int newSort, int n) {
            sort = newSort;
            places = n;
            for (int k = 0; k < PLACES; k++) {
                values[k] = 0;
                noNumber[k] = false;
            }
        }

        void put(int place, int v) {
            noNumber[place] = v == NONE;
            values[place] = sort == SHORTS ? (short) v : v;
        }

        void take(Sheet source, int place, int at, int many) {
            System.arraycopy(source.values, place, values, at, many);
            System.arraycopy(source.noNumber, place, noNumber, at, many);
        }

        void become(Sheet other) {
            sort = other.sort;
            places = other.places;
            take(other, 0, 0, PLACES);
        }

        int differences(int[] corn) {
            int sum = 0;
            for (int k = 0; k < places; k++) {
                if (isNumber(k)) {
                    sum += Math.abs(values[k] - (k < corn.length ? corn[k] : 0));
                }
            }
            return sum;
        }
    }

    /** What is laid in a slot is copied, so that it stays as it was then. */
    static final class Slot {
        static final int EMPTY = 0, ONE = 1, ROW = 2, NUMBER = 3;
        final Sheet row = new Sheet();
        int holds = EMPTY;
        Neighbour kind = null;
        int hire = 0;
        int number = 0;

        void holdOne(Neighbour ofKind, int forHire) {
            kind = ofKind;
            hire = forHire;
        }
    }
}
