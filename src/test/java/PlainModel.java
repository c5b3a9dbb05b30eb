import java.util.ArrayList;
import java.util.Arrays;
import java.util.HashSet;
import java.util.List;
import java.util.Set;

/** A second telling of the document, slow and plain: PEOPLE and FIELDS as objects, TEXTS worked out from their words. */
final class PlainModel {
    private static final int BAD = -1000000001, NO = -1000000002, FULL = -1000000003, NONE = -1000000005,
            NOTHING = -1000000011, KIND = -1000000012, INDEX = -1000000013, SIZE = -1000000014;
    private static final int[] ABOVE = {-1, 0, 0, 1, 2, 0};
    private static final String[] KEYS = {"walk", "toll", "fine"};

    static final class Person {
        int kind, home, hire, hours, caught;
        Set<Integer> had = new HashSet<>();
        Integer stands = null;

        Person copy() {
            Person p = new Person();
            p.kind = kind;
            p.home = home;
            p.hire = hire;
            p.hours = hours;
            p.caught = caught;
            p.had = new HashSet<>(had);
            return p;
        }

        int worth() {
            switch (kind) {
                case 0: return hire;
                case 1: return hire + 4;
                case 2: return 99 - hire;
                case 3: return (hire + 4) * 2;
                case 4: return 99 - hire - 6;
                default: return 3;
            }
        }

        int bits() {
            int bits = 0;
            for (int f : had) {
                bits += 1 << f;
            }
            return bits;
        }
    }

    static final class Field {
        int owner = 8, corn = 10, room = 1;

        Field copy() {
            Field f = new Field();
            f.owner = owner;
            f.corn = corn;
            f.room = room;
            return f;
        }
    }

    static final class State {
        List<Person> people = new ArrayList<>();
        List<Field> fields = new ArrayList<>();
        Set<Integer> talk = new HashSet<>();
        List<List<String>> texts = new ArrayList<>();
        int late = 10, noon = 0, steps = 0, left = 0, z = 1;

        State copy() {
            State s = new State();
            for (Person p : people) {
                s.people.add(p.copy());
            }
            for (Field f : fields) {
                s.fields.add(f.copy());
            }
            s.talk.addAll(talk);
            s.texts.addAll(texts);
            s.late = late;
            s.noon = noon;
            s.steps = steps;
            s.left = left;
            s.z = z;
            return s;
        }

        int draw() {
            z = z * 1103515245 + 12345;
            return z >>> 8;
        }

        int why(int key) {
            for (int k = texts.size() - 1; k >= 0; k--) {
                if (texts.get(k).get(0).equals(KEYS[key])) {
                    return k;
                }
            }
            return NONE;
        }

        int gives(int key, String names, int... values) {
            List<String> words = texts.get(why(key));
            return value(words.subList(1, words.size()), names, values);
        }

        int walk(Person p, int f) {
            int far = farOf(p.home, f);
            int plain = 10 * far + fields.get(f).corn;
            if (why(0) != NONE) {
                plain = gives(0, "dch", far, fields.get(f).corn, p.had.contains(f) ? 1 : 0);
                plain = plain < 0 ? 0 : plain > 999 ? 999 : plain;
            }
            switch (p.kind) {
                case 0: return plain;
                case 1: return plain + plain;
                case 2: return plain / 2;
                case 3: return plain + plain + 5;
                case 4: return plain / 2 < 3 ? 0 : plain / 2 - 3;
                default: return 0;
            }
        }

        boolean may(Person p, int f) {
            boolean own = fields.get(f).owner == people.indexOf(p);
            switch (p.kind) {
                case 3: return !own && farOf(p.home, f) < 3;
                case 4: return !own || fields.get(f).corn == 0;
                case 5: return true;
                default: return !own;
            }
        }

        boolean room(Person p, int f) {
            List<Person> there = new ArrayList<>();
            for (Person q : people) {
                if (q != p && q.stands != null && q.stands == f) {
                    there.add(q);
                }
            }
            for (Person q : there) {
                if (talk.contains(pair(people.indexOf(p), people.indexOf(q)))) {
                    return false;
                }
            }
            return there.size() < fields.get(f).room;
        }

        void noon(int without) {
            for (Person p : people) {
                p.stands = null;
            }
            List<Person> round = new ArrayList<>();
            if (!people.isEmpty()) {
                int first = noon % people.size();
                round.addAll(people.subList(first, people.size()));
                round.addAll(people.subList(0, first));
            }
            for (Person p : round) {
                if (people.indexOf(p) == without) {
                    continue;
                }
                Integer best = null;
                for (int f = 8; f >= 0; f--) {
                    if (may(p, f) && room(p, f) && (best == null || walk(p, f) <= walk(p, best))) {
                        best = f;
                    }
                }
                p.stands = best;
                if (best == null) {
                    left += 1;
                    continue;
                }
                steps += walk(p, best);
                if (fields.get(best).corn > 0) {
                    fields.get(best).corn -= 1;
                }
                p.had.add(best);
                int owner = fields.get(best).owner;
                if (owner < people.size() && people.get(owner) != p) {
                    people.get(owner).hours += 1;
                }
            }
            if (draw() % 100 < late) {
                for (Person p : people) {
                    if (p.stands != null && farOf(p.stands, p.home) < 2) {
                        p.caught += 1;
                    }
                }
            }
            noon += 1;
        }

        State behind(int n, int without) {
            State s = copy();
            for (int k = 0; k < n; k++) {
                s.noon(without);
            }
            return s;
        }

        int corn() {
            int sum = 0;
            for (Field f : fields) {
                sum += f.corn;
            }
            return sum;
        }

        int caught() {
            int sum = 0;
            for (Person p : people) {
                sum += p.caught;
            }
            return sum;
        }
    }

    State s = new State();
    State image = null;
    List<Integer> waiting = new ArrayList<>();
    StringBuilder tape = new StringBuilder();
    /** A SHEET: its sort, then its places (null: NO NUMBER). */
    List<List<Integer>> sheets = new ArrayList<>(Arrays.asList(null, null, null, null));
    Object[] slots = new Object[5];

    PlainModel() {
        for (int f = 0; f < 9; f++) {
            s.fields.add(new Field());
        }
    }

    static int farOf(int a, int b) {
        int rows = a / 3 > b / 3 ? a / 3 - b / 3 : b / 3 - a / 3;
        int places = a % 3 > b % 3 ? a % 3 - b % 3 : b % 3 - a % 3;
        return rows + places;
    }

    static int pair(int a, int b) {
        return Math.min(a, b) * 8 + Math.max(a, b);
    }

    boolean one(int v) {
        return v >= 0 && v < s.people.size();
    }

    static boolean in(int v, int low, int high) {
        return v >= low && v <= high;
    }

    static boolean under(int kind, int above) {
        for (int k = kind; k >= 0; k = ABOVE[k]) {
            if (k == above) {
                return true;
            }
        }
        return false;
    }

    // ---- texts: the last of the loosest signs outside all ( ) parts an expression in two

    static int value(List<String> w, String names, int[] values) {
        for (String level : new String[] {"|", "&", "<=>", "+-", "*/"}) {
            int open = 0;
            for (int k = w.size() - 1; k > 0; k--) {
                open += w.get(k).equals(")") ? 1 : w.get(k).equals("(") ? -1 : 0;
                if (open == 0 && level.contains(w.get(k))) {
                    int a = value(w.subList(0, k), names, values);
                    int b = value(w.subList(k + 1, w.size()), names, values);
                    return join(w.get(k), a, b);
                }
            }
        }
        String first = w.get(0);
        if (first.equals("!")) {
            return value(w.subList(1, w.size()), names, values) == 0 ? 1 : 0;
        }
        if (first.equals("(")) {
            return value(w.subList(1, w.size() - 1), names, values);
        }
        return Character.isDigit(first.charAt(0)) ? Integer.parseInt(first) : values[names.indexOf(first)];
    }

    static int join(String sign, int a, int b) {
        boolean is;
        switch (sign) {
            case "|": is = a != 0 | b != 0; break;
            case "&": is = a != 0 & b != 0; break;
            case "<": is = a < b; break;
            case "=": is = a == b; break;
            case ">": is = a > b; break;
            case "+": return a + b;
            case "-": return a - b;
            case "*": return a * b;
            default: return b == 0 ? 0 : (int) ((long) a / b);
        }
        return is ? 1 : 0;
    }

    /** The words of a TEXT into words; what comes back is the place of its FAULT, or -1. */
    static int read(String t, List<String> words) {
        boolean wantsPiece = true;
        boolean tested = false;
        List<int[]> open = new ArrayList<>();
        int base = 0;
        int nots = 0;
        int at = 0;
        boolean behindWord = false;
        String key = null;
        while (true) {
            int from = at;
            while (at < t.length() && t.charAt(at) == ' ') {
                at++;
            }
            if (at == t.length()) {
                return key == null || wantsPiece || !open.isEmpty() ? at : -1;
            }
            int start = at;
            String c = t.substring(at, at + 1);
            String word = c;
            for (String row : new String[] {"abcdefghijklmnopqrstuvwxyz", "0123456789"}) {
                if (row.contains(c)) {
                    while (at < t.length() && row.indexOf(t.charAt(at)) >= 0) {
                        at++;
                    }
                    word = t.substring(start, at);
                }
            }
            boolean isWord = at > start;
            at = isWord ? at : at + 1;
            if (isWord && behindWord && from == start) {
                return start;
            }
            behindWord = isWord;
            if (key == null) {
                if (!Arrays.asList(KEYS).contains(word)) {
                    return start;
                }
                key = word;
            } else if (wantsPiece) {
                String names = key.equals("walk") ? "dch" : key.equals("toll") ? "sl" : "hc";
                if (word.equals("!") && nots < 8) {
                    nots++;
                } else if (word.equals("(") && open.size() < 8) {
                    open.add(new int[] {base, tested ? 1 : 0});
                    base = nots;
                    tested = false;
                } else if (isWord && (Character.isDigit(word.charAt(0)) ? word.length() <= 4
                        : word.length() == 1 && names.contains(word))) {
                    wantsPiece = false;
                    nots = base;
                } else {
                    return start;
                }
            } else if (word.equals(")") && !open.isEmpty()) {
                int[] outer = open.remove(open.size() - 1);
                base = outer[0];
                tested = outer[1] == 1;
                nots = base;
            } else if ("|&".contains(word)) {
                tested = false;
                wantsPiece = true;
            } else if ("<=>".contains(word) && !tested) {
                tested = true;
                wantsPiece = true;
            } else if ("+-*/".contains(word)) {
                wantsPiece = true;
            } else {
                return start;
            }
            words.add(word);
        }
    }

    // ---- the calls

    int call(String name, int... a) {
        switch (name) {
            case "person": return person(a[0], a[1], a[2]);
            case "told": return told(a[0], a[1]);
            case "walk": return !one(a[0]) || !in(a[1], 0, 8) || !in(a[2], 0, 1) ? BAD
                    : a[2] == 0 ? s.walk(s.people.get(a[0]), a[1]) : s.may(s.people.get(a[0]), a[1]) ? 1 : 0;
            case "as": return !one(a[0]) || !in(a[1], 0, 5) ? BAD
                    : under(s.people.get(a[0]).kind, a[1]) ? s.people.get(a[0]).hire : KIND;
            case "turns": return turns(a[0], a[1]);
            case "set": return set(a[0], a[1], a[2]);
            case "talk": return talk(a[0], a[1], a[2]);
            case "field": return !in(a[0], 0, 8) || !in(a[1], 0, 2) ? BAD : field(a[0], a[1]);
            case "lays": return lays(a[0], a[1], a[2]);
            case "far": return !in(a[0], 0, 8) || !in(a[1], 0, 8) ? BAD : farOf(a[0], a[1]);
            case "late": return late(a[0]);
            case "deal": return deal(a[0]);
            case "seed": return seed(a[0]);
            case "noons": return noons(a[0]);
            case "year": return year(a[0]);
            case "best": return best(a[0]);
            case "behind": return behind(a[0], a[1]);
            case "has": return has(a[0], a[1], a[2]);
            case "rota": return rota(a[0]);
            case "sold": return sold(a[0], a[1], a[2]);
            case "nobodys": return nobodys(a[0], a[1]);
            case "beside": return beside(a[0], a[1]);
            case "atHome": return atHome(a[0], a[1], a[2]);
            default: return more(name, a);
        }
    }

    int more(String name, int[] a) {
        switch (name) {
            case "toll": return s.why(1) == NONE ? s.steps : s.gives(1, "sl", s.steps, s.left);
            case "fine": return fine(a[0]);
            case "feed": return feed(a[0], a[1], a[2]);
            case "trim": return trim(a[0]);
            case "text": return text();
            case "textTold": return textTold(a[0], a[1]);
            case "why": return in(a[0], 0, 2) ? s.why(a[0]) : BAD;
            case "sheet": return sheet(a[0], a[1], a[2]);
            case "mark": return mark(a[0], a[1], a[2]);
            case "pour": return pour(a[0]);
            case "reads": return reads(a[0]);
            case "copy": return copy(a[0], a[1], a[2], a[3], a[4]);
            case "lay": return lay(a[0], a[1], a[2]);
            case "ask": return ask(a[0], a[1]);
            case "item": return item(a[0], a[1]);
            case "rest": return rest(a[0], a[1]);
            case "tell": return tell(a[0]);
            case "check": return check(a[0]);
            case "keep": image = s.copy(); return s.people.size();
            case "back": return back();
            case "count": return count(a[0]);
            default: throw new IllegalArgumentException(name);
        }
    }

    int person(int kind, int home, int hire) {
        if (!in(kind, 0, 5) || !in(home, 0, 8) || !in(hire, 0, 99)) {
            return BAD;
        }
        if (s.people.size() == 8) {
            return FULL;
        }
        Person p = new Person();
        p.kind = kind;
        p.home = home;
        p.hire = hire;
        s.people.add(p);
        return s.people.size() - 1;
    }

    int told(int one, int what) {
        if (!one(one) || !in(what, 0, 6)) {
            return BAD;
        }
        Person p = s.people.get(one);
        return new int[] {p.kind, p.home, p.hire, p.bits(), p.hours, p.caught, p.worth()}[what];
    }

    int turns(int one, int kind) {
        if (!one(one) || !in(kind, 0, 5)) {
            return BAD;
        }
        int was = s.people.get(one).kind;
        s.people.get(one).kind = kind;
        return was;
    }

    int set(int one, int what, int v) {
        if (!one(one) || !in(what, 1, 2) || !in(v, 0, what == 1 ? 8 : 99)) {
            return BAD;
        }
        Person p = s.people.get(one);
        int was = what == 1 ? p.home : p.hire;
        if (what == 1) {
            p.home = v;
        } else {
            p.hire = v;
        }
        return was;
    }

    int talk(int one, int other, int v) {
        if (!one(one) || !one(other) || one == other || !in(v, 0, 1)) {
            return BAD;
        }
        if (v == 1) {
            return s.talk.add(pair(one, other)) ? 0 : 1;
        }
        return s.talk.remove(pair(one, other)) ? 1 : 0;
    }

    int field(int f, int what) {
        Field field = s.fields.get(f);
        return what == 0 ? field.owner : what == 1 ? field.corn : field.room;
    }

    int lays(int f, int what, int v) {
        if (!in(f, 0, 8) || !in(what, 0, 2) || !in(v, 0, what == 0 ? 8 : what == 1 ? 99 : 4)) {
            return BAD;
        }
        int was = field(f, what);
        if (what == 0) {
            s.fields.get(f).owner = v;
        } else if (what == 1) {
            s.fields.get(f).corn = v;
        } else {
            s.fields.get(f).room = v;
        }
        return was;
    }

    int late(int v) {
        if (!in(v, 0, 100)) {
            return BAD;
        }
        int was = s.late;
        s.late = v;
        return was;
    }

    int deal(int n) {
        if (!in(n, 1, 8)) {
            return BAD;
        }
        int came = 0;
        while (came < n && s.people.size() < 8) {
            int kind = s.draw() % 6;
            int home = s.draw() % 9;
            person(kind, home, s.draw() % 60);
            came++;
        }
        return came;
    }

    int seed(int v) {
        int was = s.z;
        s.z = v;
        return was;
    }

    int noons(int n) {
        if (!in(n, 1, 100)) {
            return BAD;
        }
        int was = s.left;
        for (int k = 0; k < n && s.noon < 9999; k++) {
            s.noon(-1);
        }
        return s.left - was;
    }

    int year(int what) {
        if (!in(what, 0, 4)) {
            return BAD;
        }
        int hours = 0;
        for (Person p : s.people) {
            hours += p.hours;
        }
        return new int[] {s.steps, s.left, s.corn(), s.caught(), hours}[what];
    }

    /** All ways, in order, by counting up to the base of 9. */
    int best(int what) {
        if (!in(what, 0, 1)) {
            return BAD;
        }
        int many = s.people.size();
        if (many == 0 || many > 5) {
            return NONE;
        }
        int ways = 1;
        int[][] walks = new int[many][9];
        for (int k = 0; k < many; k++) {
            ways *= 9;
            for (int f = 0; f < 9; f++) {
                walks[k][f] = s.may(s.people.get(k), f) ? s.walk(s.people.get(k), f) : -1;
            }
        }
        int least = -1;
        int which = -1;
        int[] at = new int[many];
        for (int way = 0; way < ways; way++) {
            for (int k = many - 1, rest = way; k >= 0; k--, rest /= 9) {
                at[k] = rest % 9;
            }
            int sum = sumOf(at, walks);
            if (sum >= 0 && (least < 0 || sum < least)) {
                least = sum;
                which = way;
            }
        }
        return least < 0 ? NONE : what == 0 ? least : which;
    }

    int sumOf(int[] at, int[][] walks) {
        int sum = 0;
        int[] standing = new int[9];
        for (int k = 0; k < at.length; k++) {
            if (walks[k][at[k]] < 0 || ++standing[at[k]] > s.fields.get(at[k]).room) {
                return -1;
            }
            sum += walks[k][at[k]];
            for (int j = 0; j < k; j++) {
                if (at[j] == at[k] && s.talk.contains(pair(j, k))) {
                    return -1;
                }
            }
        }
        return sum;
    }

    int behind(int n, int what) {
        if (!in(n, 0, 100) || !in(what, 0, 3)) {
            return BAD;
        }
        State t = s.behind(n, -1);
        return new int[] {t.steps, t.left, t.corn(), t.caught()}[what];
    }

    int has(int one, int n, int what) {
        if (!one(one) || !in(n, 0, 100) || !in(what, 0, 1)) {
            return BAD;
        }
        Person p = s.behind(n, -1).people.get(one);
        return what == 0 ? p.hours : p.bits();
    }

    int rota(int m) {
        if (!in(m, 0, 9)) {
            return BAD;
        }
        State t = s.copy();
        for (int k = 0; k <= 100; k++, t.noon(-1)) {
            boolean all = true;
            for (Person p : t.people) {
                all &= p.had.size() >= m;
            }
            if (all) {
                return k;
            }
        }
        return NONE;
    }

    int sold(int field, int one, int n) {
        if (!in(field, 0, 8) || !one(one) || !in(n, 1, 60)) {
            return BAD;
        }
        State t = s.copy();
        t.fields.get(field).owner = one;
        return t.behind(n, -1).steps - s.behind(n, -1).steps;
    }

    int nobodys(int n, int what) {
        if (!in(n, 1, 60) || !in(what, 0, 1)) {
            return BAD;
        }
        int[] sums = new int[9];
        int best = 0;
        for (int f = 0; f < 9; f++) {
            State t = s.copy();
            t.fields.get(f).owner = 8;
            t = t.behind(n, -1);
            sums[f] = t.steps + t.left * 100;
            best = sums[f] < sums[best] ? f : best;
        }
        return what == 0 ? best : sums[best];
    }

    int beside(int n, int what) {
        if (!in(n, 1, 60) || !in(what, 0, 1)) {
            return BAD;
        }
        int[][] often = new int[8][8];
        State t = s.copy();
        for (int k = 0; k < n; k++) {
            t.noon(-1);
            for (Person p : t.people) {
                for (Person q : t.people) {
                    if (p != q && p.stands != null && p.stands.equals(q.stands)) {
                        often[t.people.indexOf(p)][t.people.indexOf(q)]++;
                    }
                }
            }
        }
        int a = 0;
        int b = 0;
        for (int p = 7; p >= 0; p--) {
            for (int q = 7; q > p; q--) {
                if (often[p][q] > 0 && often[p][q] >= often[a][b]) {
                    a = p;
                    b = q;
                }
            }
        }
        return often[a][b] == 0 ? NONE : what == 0 ? 10 * a + b : often[a][b];
    }

    int atHome(int sheet, int n, int what) {
        if (!in(sheet, 0, 3) || !in(n, 0, 60) || !in(what, 0, 1)) {
            return BAD;
        }
        List<Integer> row = sheets.get(sheet);
        if (row == null) {
            return NOTHING;
        }
        int who = NONE;
        int least = NONE;
        for (int one = s.people.size() - 1; one >= 0; one--) {
            State t = s.behind(n, one);
            int sum = 0;
            for (int k = 0; k + 1 < row.size(); k++) {
                if (row.get(k + 1) != null) {
                    sum += Math.abs((k > 8 ? 0 : t.fields.get(k).corn) - row.get(k + 1));
                }
            }
            if (who == NONE || sum <= least) {
                who = one;
                least = sum;
            }
        }
        return what == 0 ? who : least;
    }

    int fine(int one) {
        if (!one(one)) {
            return BAD;
        }
        Person p = s.people.get(one);
        return s.why(2) == NONE ? p.hours : s.gives(2, "hc", p.hours, p.caught);
    }

    int feed(int a, int b, int c) {
        if (tape.length() + 12 > 96) {
            return FULL;
        }
        for (int v : new int[] {a, b, c}) {
            tape.append((char) (v >> 24 & 255)).append((char) (v >> 16 & 255));
            tape.append((char) (v >> 8 & 255)).append((char) (v & 255));
        }
        return tape.length();
    }

    int trim(int n) {
        if (!in(n, 0, tape.length())) {
            return BAD;
        }
        tape.setLength(n);
        return n;
    }

    int text() {
        List<String> words = new ArrayList<>();
        int fault = read(tape.toString(), words);
        tape.setLength(0);
        if (fault >= 0) {
            return -100 - fault;
        }
        if (s.texts.size() == 14) {
            return FULL;
        }
        s.texts.add(words);
        return s.texts.size() - 1;
    }

    int textTold(int text, int what) {
        if (!in(text, 0, s.texts.size() - 1) || !in(what, 0, 1)) {
            return BAD;
        }
        List<String> words = s.texts.get(text);
        if (what == 0) {
            return Arrays.asList(KEYS).indexOf(words.get(0));
        }
        int many = -1;
        for (String word : words) {
            many += Character.isLetterOrDigit(word.charAt(0)) ? 1 : 0;
        }
        return many;
    }

    int sheet(int sheet, int sort, int n) {
        if (!in(sheet, 0, 3) || !in(sort, -1, 1) || (sort >= 0 && n > 24)) {
            return BAD;
        }
        if (sort >= 0 && n < 0) {
            return SIZE;
        }
        List<Integer> row = new ArrayList<>();
        row.add(sort);
        for (int k = 0; sort >= 0 && k < n; k++) {
            row.add(0);
        }
        sheets.set(sheet, sort < 0 ? null : row);
        return sort < 0 ? 0 : n;
    }

    int mark(int sheet, int place, int v) {
        if (!in(sheet, 0, 3)) {
            return BAD;
        }
        List<Integer> row = sheets.get(sheet);
        if (row == null) {
            return NOTHING;
        }
        if (!in(place, 0, row.size() - 2)) {
            return INDEX;
        }
        if (row.get(0) == 0) {
            if (v == NONE) {
                return KIND;
            }
            int low = v & 0xffff;
            row.set(place + 1, low >= 0x8000 ? low - 0x10000 : low);
            return 1;
        }
        if (v != NONE && !in(v, -99999, 99999)) {
            return BAD;
        }
        row.set(place + 1, v == NONE ? null : (Integer) v);
        return 1;
    }

    int pour(int sheet) {
        if (!in(sheet, 0, 3)) {
            return BAD;
        }
        List<Integer> row = sheets.get(sheet);
        if (row == null) {
            return NOTHING;
        }
        int changed = 0;
        for (int f = 0; f < 9; f++) {
            Integer v = f + 1 < row.size() ? row.get(f + 1) : null;
            if (v != null) {
                int corn = v < 0 ? 0 : v > 99 ? 99 : v;
                changed += corn != s.fields.get(f).corn ? 1 : 0;
                s.fields.get(f).corn = corn;
            }
        }
        return changed;
    }

    int reads(int sheet) {
        if (!in(sheet, 0, 3)) {
            return BAD;
        }
        List<Integer> row = sheets.get(sheet);
        if (row == null) {
            return NOTHING;
        }
        for (int k = 0; k + 1 < row.size(); k++) {
            Integer v = row.get(k + 1);
            if (v != null && (k >= s.people.size() || s.people.get(k).hours != v)) {
                return k;
            }
        }
        return NONE;
    }

    int copy(int from, int place, int to, int at, int many) {
        if (!in(from, 0, 3) || !in(to, 0, 3)) {
            return BAD;
        }
        List<Integer> a = sheets.get(from);
        List<Integer> b = sheets.get(to);
        if (a == null || b == null) {
            return NOTHING;
        }
        if (!a.get(0).equals(b.get(0))) {
            return KIND;
        }
        if (place < 0 || at < 0 || many < 0 || (long) place + many > a.size() - 1 || (long) at + many > b.size() - 1) {
            return INDEX;
        }
        List<Integer> part = new ArrayList<>(a.subList(place + 1, place + 1 + many));
        for (int k = 0; k < many; k++) {
            b.set(at + 1 + k, part.get(k));
        }
        return many;
    }

    int lay(int slot, int thing, int k) {
        if (!in(slot, 0, 4) || !in(thing, 0, 3) || (thing == 1 && !one(k)) || (thing == 2 && !in(k, 0, 3))) {
            return BAD;
        }
        if (thing == 2 && sheets.get(k) == null) {
            return NOTHING;
        }
        Object held = slots[slot];
        slots[slot] = thing == 0 ? null : thing == 1 ? s.people.get(k).copy()
                : thing == 2 ? new ArrayList<>(sheets.get(k)) : (Object) k;
        return held == null ? 0 : held instanceof Person ? 1 : held instanceof Integer ? 3 : 2;
    }

    int ask(int slot, int kind) {
        if (!in(slot, 0, 4) || !in(kind, 0, 5)) {
            return BAD;
        }
        if (slots[slot] == null) {
            return NOTHING;
        }
        if (!(slots[slot] instanceof Person) || !under(((Person) slots[slot]).kind, kind)) {
            return KIND;
        }
        return ((Person) slots[slot]).worth();
    }

    int item(int slot, int place) {
        if (!in(slot, 0, 4)) {
            return BAD;
        }
        if (slots[slot] == null) {
            return NOTHING;
        }
        if (!(slots[slot] instanceof List)) {
            return KIND;
        }
        List<?> row = (List<?>) slots[slot];
        if (!in(place, 0, row.size() - 2)) {
            return INDEX;
        }
        return row.get(place + 1) == null ? KIND : (Integer) row.get(place + 1);
    }

    int rest(int slot, int n) {
        if (!in(slot, 0, 4)) {
            return BAD;
        }
        if (slots[slot] == null) {
            return NOTHING;
        }
        if (!(slots[slot] instanceof Integer)) {
            return KIND;
        }
        long v = (Integer) slots[slot];
        return n == 0 ? NO : (int) (v - v / n * n);
    }

    int tell(int v) {
        if (waiting.size() == 60) {
            return FULL;
        }
        waiting.add(v);
        return waiting.size();
    }

    int check(int n) {
        List<Integer> told = waiting;
        waiting = new ArrayList<>();
        if (!in(n, 1, 30)) {
            return BAD;
        }
        if (image == null) {
            return NO;
        }
        List<Integer> due = new ArrayList<>();
        for (State t = image.copy(); due.size() < 2 * n && t.noon < 9999;) {
            t.noon(-1);
            due.add(t.steps);
            due.add(t.corn());
        }
        int same = 0;
        while (same < due.size() && same < told.size() && due.get(same).equals(told.get(same))) {
            same++;
        }
        return same == due.size() && same == told.size() ? 0 : 1 + same;
    }

    int back() {
        if (image == null) {
            return NO;
        }
        s = image.copy();
        return s.people.size();
    }

    int count(int what) {
        if (!in(what, 0, 7)) {
            return BAD;
        }
        return new int[] {s.people.size(), s.noon, s.late, s.talk.size(), s.texts.size(), waiting.size(),
            tape.length(), s.z}[what];
    }
}
