import java.util.function.Supplier;
import java.util.function.ToIntFunction;

/** Answers that are due: prints each one that is not, and ends with exit code 1 if there was one. */
final class Due {
    static final int BAD = -1000000001, NO = -1000000002, FULL = -1000000003, NONE = -1000000005,
            NOTHING = -1000000011, KIND = -1000000012, INDEX = -1000000013, SIZE = -1000000014;
    private static int wrong = 0;
    private static String sentence = "";

    /** A call with one argument that is told. */
    interface With {
        int of(NoonFields x, int v);
    }

    private Due() {
    }

    /** Tests one sentence of the document: each fault is told with it, also what the machine throws. */
    static void sentence(String words, Runnable test) {
        sentence = words + ": ";
        try {
            test.run();
        } catch (RuntimeException | StackOverflowError thrown) {
            tell("threw " + thrown);
        }
        sentence = "";
    }

    static void is(String call, long got, long want) {
        if (got != want) {
            tell(call + " answered " + got + ", due is " + want);
        }
    }

    static void isSame(String what, String got, String want) {
        if (!got.equals(want)) {
            tell(what + " is " + got + ", due is " + want);
        }
    }

    static void tell(String fault) {
        wrong++;
        if (wrong <= 50) {
            System.out.println(sentence + fault);
        }
    }

    /**
     * A call that is refused: what it answers, and that it changes nothing. It is made on a new object, and a
     * second one goes without it, so that no object has more calls than the document promises.
     */
    static void refused(Supplier<NoonFields> made, String call, int want, ToIntFunction<NoonFields> of) {
        NoonFields x = made.get();
        is(call, of.applyAsInt(x), want);
        isSame("all behind " + call, Everything.of(x), Everything.of(made.get()));
    }

    /** BAD right outside low .. high and at the ends of the ints, and at low and high not. */
    static void only(Supplier<NoonFields> made, String call, int low, int high, With of) {
        only(made, call, low, high, BAD, of);
    }

    static void only(Supplier<NoonFields> made, String call, int low, int high, int want, With of) {
        for (int v : new int[] {low - 1, high + 1, Integer.MIN_VALUE, Integer.MAX_VALUE}) {
            refused(made, call + " with " + v, want, x -> of.of(x, v));
        }
        for (int v : new int[] {low, high}) {
            if (of.of(made.get(), v) == want) {
                tell(call + " with " + v + " answered " + want + ", which is due only outside");
            }
        }
    }

    /** Bytes for THE TAPE: fed by twelves, the last ones trimmed. */
    static void feed(NoonFields x, String bytes) {
        x.trim(0);
        for (int at = 0; at < bytes.length(); at += 12) {
            x.feed(four(bytes, at), four(bytes, at + 4), four(bytes, at + 8));
        }
        is("trim", x.trim(bytes.length()), bytes.length());
    }

    private static int four(String bytes, int at) {
        int number = 0;
        for (int k = at; k < at + 4; k++) {
            number = number << 8 | (k < bytes.length() ? bytes.charAt(k) : 0);
        }
        return number;
    }

    static int text(NoonFields x, String bytes) {
        feed(x, bytes);
        return x.text();
    }

    static void text(NoonFields x, String bytes, int want) {
        is("text " + bytes, text(x, bytes), want);
        is("bytes of THE TAPE behind text", x.count(6), 0);
    }

    static void end(String test) {
        System.out.println(test + ": " + (wrong == 0 ? "all as due" : wrong + " not as due"));
        if (wrong != 0) {
            System.exit(1);
        }
    }
}
