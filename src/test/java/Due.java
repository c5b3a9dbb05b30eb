import java.util.function.IntUnaryOperator;

/** Answers that are due: prints each one that is not, and ends with exit code 1 if there was one. */
final class Due {
    static final int BAD = -1000000001, NO = -1000000002, FULL = -1000000003, NONE = -1000000005,
            NOTHING = -1000000011, KIND = -1000000012, INDEX = -1000000013, SIZE = -1000000014;
    private static int wrong = 0;

    private Due() {
    }

    static void is(String call, long got, long want) {
        if (got != want) {
            tell(call + " answered " + got + ", due is " + want);
        }
    }

    static void isSame(String what, String got, String want) {
        if (!got.equals(want)) {
            tell(what + " is " + got + ", due is " + want);
        }
    }

    static void tell(String fault) {
        wrong++;
        if (wrong <= 50) {
            System.out.println(fault);
        }
    }

    /** BAD for each argument right outside low .. high and at the ends of the ints; nothing changes. */
    static void bad(NoonFields x, String call, int low, int high, IntUnaryOperator of) {
        for (int v : new int[] {low - 1, high + 1, Integer.MIN_VALUE, Integer.MAX_VALUE}) {
            if (v < low || v > high) {
                refused(x, call + " with " + v, BAD, () -> of.applyAsInt(v));
            }
        }
    }

    static void refused(NoonFields x, String call, int want, java.util.function.IntSupplier of) {
        String before = everything(x);
        is(call, of.getAsInt(), want);
        isSame("all behind " + call, everything(x), before);
    }

    /** What an object tells of itself by calls that change nothing. */
    static String everything(NoonFields x) {
        StringBuilder all = new StringBuilder();
        for (int what = 0; what < 8; what++) {
            all.append(x.count(what)).append(' ');
        }
        for (int what = 0; what < 5; what++) {
            all.append(x.year(what)).append(' ');
        }
        for (int one = 0; one < x.count(0); one++) {
            for (int what = 0; what < 7; what++) {
                all.append(x.told(one, what)).append(' ');
            }
        }
        for (int field = 0; field < 9; field++) {
            for (int what = 0; what < 3; what++) {
                all.append(x.field(field, what)).append(' ');
            }
        }
        for (int key = 0; key < 3; key++) {
            all.append(x.why(key)).append(' ');
        }
        return all.toString();
    }

    /** Bytes for THE TAPE: fed by twelves, the last ones trimmed. */
    static void feed(NoonFields x, String bytes) {
        x.trim(0);
        for (int at = 0; at < bytes.length(); at += 12) {
            x.feed(four(bytes, at), four(bytes, at + 4), four(bytes, at + 8));
        }
        is("trim", x.trim(bytes.length()), bytes.length());
    }

    private static int four(String bytes, int at) {
        int number = 0;
        for (int k = at; k < at + 4; k++) {
            number = number << 8 | (k < bytes.length() ? bytes.charAt(k) : 0);
        }
        return number;
    }

    static int text(NoonFields x, String bytes) {
        feed(x, bytes);
        return x.text();
    }

    static void text(NoonFields x, String bytes, int want) {
        is("text " + bytes, text(x, bytes), want);
        is("bytes of THE TAPE behind text", x.count(6), 0);
    }

    static void end(String test) {
        System.out.println(test + ": " + (wrong == 0 ? "all as due" : wrong + " not as due"));
        if (wrong != 0) {
            System.exit(1);
        }
    }
}
