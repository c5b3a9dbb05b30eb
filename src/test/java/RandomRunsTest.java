import java.lang.reflect.InvocationTargetException;
import java.lang.reflect.Method;
import java.util.ArrayList;
import java.util.List;
import java.util.Random;

/** Runs of calls by chance, with fixed seeds, on the program and on PlainModel: both answer alike. */
final class RandomRunsTest {
    private static final String[] PIECES = {"d", "c", "h", "s", "l", "0", "1", "7", "12", "999", "9999", "00", "12345",
        "(", "(", ")", ")", "!", "!", "+", "-", "*", "/", "<", "=", ">", "&", "|", " ", "  ", "walk", "dc", "~", "A"};

    private static final int MOST_CALLS = 512;

    private final Random chance;
    private final NoonFields x = new NoonFields();
    private final PlainModel model = new PlainModel();
    private final StringBuilder run = new StringBuilder();
    private final Method[] methods;
    private int calls = 0;
    private int last = 0;
    private boolean wrong = false;

    private RandomRunsTest(long seed, Method[] methods) {
        chance = new Random(seed);
        this.methods = methods;
    }

    public static void main(String[] args) {
        int runs = args.length > 0 ? Integer.parseInt(args[0]) : 120;
        long first = args.length > 1 ? Long.parseLong(args[1]) : 1;
        List<Method> own = new ArrayList<>();
        for (Method m : NoonFields.class.getDeclaredMethods()) {
            if (java.lang.reflect.Modifier.isPublic(m.getModifiers())) {
                own.add(m);
            }
        }
        own.sort((a, b) -> a.getName().compareTo(b.getName()));
        for (long seed = first; seed < first + runs; seed++) {
            new RandomRunsTest(seed, own.toArray(new Method[0])).go();
        }
        Due.end("RandomRunsTest");
    }

    private void go() {
        if (chance.nextInt(3) > 0) {
            both("seed", chance.nextInt());
            both("deal", 1 + chance.nextInt(8));
        }
        while (calls < MOST_CALLS && !wrong) {
            switch (chance.nextInt(12)) {
                case 0: tellText(); break;
                case 1: tellNoons(); break;
                case 2: tidyRoom(); break;
                case 3: case 4: fillSheet(); break;
                case 5: fillSlot(); break;
                case 6: think(); break;
                default: any(methods[chance.nextInt(methods.length)]);
            }
        }
    }

    private void any(Method m) {
        int[] a = new int[m.getParameterCount()];
        for (int k = 0; k < a.length; k++) {
            a[k] = number();
        }
        if (m.getName().equals("feed") && chance.nextInt(4) > 0) {
            return;
        }
        if (m.getName().equals("mark") && chance.nextInt(5) == 0) {
            a[2] = Due.NONE;
        }
        both(m.getName(), a);
    }

    private int number() {
        switch (chance.nextInt(24)) {
            case 0: return chance.nextInt();
            case 1: return new int[] {Integer.MIN_VALUE, Integer.MAX_VALUE, 99999, -99999, 100000}[chance.nextInt(5)];
            case 2: return -1 - chance.nextInt(2);
            case 3: return chance.nextInt(130);
            case 4: case 5: return 6 + chance.nextInt(56);
            case 6: case 7: case 8: case 9: return chance.nextInt(10);
            default: return chance.nextInt(5);
        }
    }

    /** Mostly 0 .. high, now and then right beside it. */
    private int near(int high) {
        return chance.nextInt(15) == 0 ? -1 + chance.nextInt(2) * (high + 2) : chance.nextInt(high + 1);
    }

    private void fillSheet() {
        int sheet = chance.nextInt(4);
        int sort = chance.nextInt(3) == 0 ? 0 : 1;
        int n = near(chance.nextBoolean() ? 24 : 9);
        both("sheet", sheet, sort, n);
        for (int k = chance.nextInt(12); k > 0; k--) {
            int v = chance.nextInt(4) == 0 ? Due.NONE : chance.nextInt(3) == 0 ? chance.nextInt() >> chance.nextInt(28)
                    : chance.nextInt(12);
            both("mark", sheet, near(Math.max(0, n - 1)), v);
        }
        for (int k = 0; k < 3; k++) {
            both("copy", sheet, near(8), chance.nextInt(3) == 0 ? near(3) : sheet, near(8), near(9));
        }
        both("reads", near(3));
        both("atHome", near(3), near(60), near(1));
        both("atHome", sheet, chance.nextInt(20), near(1));
        if (chance.nextInt(4) == 0) {
            both("pour", near(3));
        }
        both("lay", 4, 2, sheet);
        for (int k = 0; k < 9; k++) {
            both("item", 4, k);
        }
    }

    private void fillSlot() {
        int slot = near(4);
        int thing = near(3);
        both("lay", slot, thing, thing == 1 ? near(7) : thing == 2 ? near(3) : chance.nextInt());
        both("ask", slot, near(5));
        both("item", slot, near(9));
        both("rest", slot, chance.nextInt() >> chance.nextInt(32));
        both("rest", slot, near(3));
        both("turns", near(7), near(5));
        both("as", near(7), near(5));
        both("set", near(7), 2, near(99));
        both("set", near(7), 1, near(8));
        both("talk", near(7), near(7), near(1));
    }

    private void think() {
        both("sold", near(8), near(7), 1 + near(59));
        both("nobodys", 1 + near(59), near(1));
        both("beside", 1 + near(59), near(1));
        both("has", near(7), near(100), near(1));
        both("behind", near(100), near(3));
        both("rota", near(9));
        both("best", near(1));
        both("noons", 1 + near(40));
    }

    private void tidyRoom() {
        int field = chance.nextInt(9);
        both("lays", field, 0, chance.nextInt(9));
        both("lays", field, 1, chance.nextInt(3) == 0 ? 0 : chance.nextInt(40));
        both("lays", field, 2, chance.nextInt(4));
        both("late", chance.nextInt(101));
        both("seed", chance.nextInt());
    }

    /** THE NOONS TOLD, as they are or with a slip. */
    private void tellNoons() {
        both("check", 1);
        both("keep");
        int n = 1 + chance.nextInt(4);
        for (int k = 1; k <= n; k++) {
            both("tell", asked("behind", k, 0));
            both("tell", asked("behind", k, 2) + (chance.nextInt(12) == 0 ? 1 : 0));
        }
        if (chance.nextBoolean()) {
            both("back");
        }
        both("check", n + (chance.nextInt(6) == 0 ? 1 : 0));
    }

    private void tellText() {
        StringBuilder text = new StringBuilder();
        String key = new String[] {"walk", "toll", "fine"}[chance.nextInt(3)];
        String names = key.equals("walk") ? "dch" : key.equals("toll") ? "sl" : "hc";
        text.append(" ".repeat(chance.nextInt(2))).append(key).append(chance.nextInt(9) == 0 ? "" : " ");
        expression(text, names, chance.nextInt(5));
        for (int slips = chance.nextInt(3); slips > 0; slips--) {
            int at = chance.nextInt(text.length() + 1);
            if (chance.nextBoolean()) {
                text.insert(at, PIECES[chance.nextInt(PIECES.length)]);
            } else if (at < text.length()) {
                text.deleteCharAt(at);
            }
        }
        if (text.length() > 96) {
            text.setLength(96);
        }
        both("trim", 0);
        for (int at = 0; at < text.length(); at += 12) {
            both("feed", four(text, at), four(text, at + 4), four(text, at + 8));
        }
        both("trim", text.length());
        run.append(" [").append(text).append("]");
        both("text");
        both("textTold", asked("count", 4) - 1, 1);
        both("textTold", asked("count", 4) - 1, 0);
        both("toll");
        both("fine", 0);
        for (int f = 0; f < 9; f++) {
            both("walk", 0, f, 0);
        }
    }

    private void expression(StringBuilder text, String names, int depth) {
        int kind = chance.nextInt(12);
        if (depth <= 0 || kind == 0) {
            text.append(chance.nextBoolean() ? names.charAt(chance.nextInt(names.length())) + ""
                    : chance.nextInt(3) == 0 ? chance.nextInt(10000) + "" : chance.nextInt(12) + "");
        } else if (kind < 3) {
            text.append("!".repeat(1 + chance.nextInt(chance.nextInt(6) == 0 ? 10 : 2)));
            expression(text, names, depth - 1);
        } else if (kind < 7) {
            int many = chance.nextInt(8) == 0 ? 1 + chance.nextInt(9) : 1;
            text.append("(".repeat(many));
            expression(text, names, depth - 1);
            text.append(")".repeat(many));
        } else {
            expression(text, names, depth - 1);
            text.append(" ".repeat(chance.nextInt(2))).append("+-*/<=>&|".charAt(chance.nextInt(9)));
            text.append(" ".repeat(chance.nextInt(2)));
            expression(text, names, depth - 1);
        }
    }

    private static int four(StringBuilder text, int at) {
        int number = 0;
        for (int k = at; k < at + 4; k++) {
            number = number << 8 | (k < text.length() ? text.charAt(k) : 0);
        }
        return number;
    }

    /** What is then told in a call; what calls behind the last one answer is free. */
    private int asked(String name, int... a) {
        both(name, a);
        return last;
    }

    private void both(String name, int... a) {
        if (wrong || calls >= MOST_CALLS) {
            return;
        }
        calls++;
        run.append(' ').append(name).append(java.util.Arrays.toString(a));
        int want = model.call(name, a);
        int got = call(name, a);
        last = got;
        if (got != want) {
            wrong = true;
            Due.tell("answered " + got + ", due is " + want + ", last of:" + run);
        }
    }

    private int call(String name, int[] a) {
        for (Method m : methods) {
            if (m.getName().equals(name)) {
                Object[] of = new Object[a.length];
                for (int k = 0; k < a.length; k++) {
                    of[k] = a[k];
                }
                try {
                    return (Integer) m.invoke(x, of);
                } catch (IllegalAccessException | InvocationTargetException e) {
                    throw new IllegalStateException(name + run, e);
                }
            }
        }
        throw new IllegalArgumentException(name);
    }
}
