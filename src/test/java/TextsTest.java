/** Promises 25 to 31: TEXTS from THE TAPE, what they give, where their FAULT is. */
final class TextsTest {
    public static void main(String[] args) {
        promise25And26();
        whatTextsGive();
        oneTextBehindAnother();
        promise27And28();
        promise29Faults();
        promise29Depths();
        promise29Full();
        promise30And31();
        textsAndImages();
        Due.end("TextsTest");
    }

    private static String times(String part, int n) {
        return part.repeat(n);
    }

    private static void promise25And26() {
        NoonFields x = new NoonFields();
        x.late(100);
        x.person(0, 0, 0);
        x.person(0, 0, 0);
        for (int f = 1; f < 9; f++) {
            x.lays(f, 2, 0);
        }
        x.lays(0, 0, 1);
        x.noons(3);
        Due.is("STEPS", x.year(0), 27);
        Due.is("LEFT", x.year(1), 3);
        Due.is("toll without a TEXT", x.toll(), 27);
        Due.is("fine without a TEXT", x.fine(1), 3);
        Due.is("fine of the other", x.fine(0), 0);
        Due.text(x, "toll s*100+l", 0);
        Due.is("toll", x.toll(), 2703);
        Due.text(x, "fine h*10+c", 1);
        Due.is("fine of 0", x.fine(0), x.told(0, 4) * 10 + x.told(0, 5));
        Due.is("fine of 1", x.fine(1), 30);
        Due.is("CAUGHT of 0", x.fine(0), 3);
    }

    private static void gives(String e, int want) {
        NoonFields x = new NoonFields();
        Due.is("toll " + e, Due.text(x, "toll " + e), 0);
        Due.is("what toll " + e + " gives", x.toll(), want);
    }

    private static void whatTextsGive() {
        gives("7", 7);
        gives("0007", 7);
        gives("9999", 9999);
        gives("s", 0);
        gives("2+3*4", 14);
        gives("(2+3)*4", 20);
        gives("10-3-2", 5);
        gives("100/7/2", 7);
        gives("7/0", 0);
        gives("(0-7)/2", -3);
        gives("0-7/2", -3);
        gives("7*3/2", 10);
        gives("7/2*3", 9);
        gives("1<2", 1);
        gives("2<2", 0);
        gives("2=2", 1);
        gives("2=3", 0);
        gives("3>2", 1);
        gives("2>2", 0);
        gives("1+1=2", 1);
        gives("1=1+1", 0);
        gives("(0-1)<0", 1);
        gives("5&0", 0);
        gives("5&6", 1);
        gives("(0-1)&(0-1)", 1);
        gives("(0-1)|0", 1);
        gives("5|0", 1);
        gives("0|0", 0);
        gives("1|0&0", 1);
        gives("(1|0)&0", 0);
        gives("1<2&3<4", 1);
        gives("2<1|3<4", 1);
        gives("1&1&0", 0);
        gives("0|0|7", 1);
        gives("!0", 1);
        gives("!5", 0);
        gives("!!5", 1);
        gives("!0+5", 6);
        gives("!(0+5)", 0);
        gives("!0*7", 7);
        gives("(5)", 5);
        gives("1=(1=1)", 1);
        gives("9999*9999*9999", 9999 * 9999 * 9999);
        gives("9999*9999*9999*9999-5", 9999 * 9999 * 9999 * 9999 - 5);
        // -2147483648 by -1 wraps.
        gives("(0-1024*1024*2048)/(0-1)", Integer.MIN_VALUE);
    }

    private static void oneTextBehindAnother() {
        NoonFields x = new NoonFields();
        x.person(0, 0, 0);
        Due.text(x, "fine 4", 0);
        Due.is("fine by TEXT 0", x.fine(0), 4);
        Due.text(x, "toll !1+!(2+3)", 1);
        Due.text(x, "toll 7", 2);
        Due.is("nothing of a longer one is left", x.toll(), 7);
        Due.text(x, "toll !!", -107);
        Due.is("a FAULT changes nothing", x.toll(), 7);
        Due.is("why", x.why(1), 2);
    }

    private static void promise27And28() {
        NoonFields x = new NoonFields();
        Due.is("trim of none", x.trim(0), 0);
        Due.is("feed", x.feed(0, 0, 0), 12);
        Due.is("feed", x.feed(-1, -1, -1), 24);
        Due.is("bytes", x.count(6), 24);
        Due.is("trim of all", x.trim(24), 24);
        Due.is("trim", x.trim(1), 1);
        Due.is("bytes", x.count(6), 1);
        for (int k = 0; k < 7; k++) {
            Due.is("feed", x.feed(0, 0, 0), 13 + 12 * k);
        }
        Due.is("85 bytes and 12", x.feed(0, 0, 0), Due.FULL);
        Due.is("trim", x.trim(84), 84);
        Due.is("96 bytes", x.feed(0, 0, 0), 96);
        Due.is("96 bytes and 12", x.feed(0, 0, 0), Due.FULL);
        // The highest byte of each number comes first: "toll", " 12+", "34  ".
        NoonFields y = new NoonFields();
        y.feed(0x746f6c6c, 0x2031322b, 0x33342020);
        Due.is("text", y.text(), 0);
        Due.is("toll", y.toll(), 46);
    }

    private static void fault(String bytes, int place) {
        NoonFields x = new NoonFields();
        Due.text(x, bytes, -100 - place);
        Due.is("TEXTS behind a FAULT", x.count(4), 0);
        Due.is("why behind a FAULT", x.why(0), Due.NONE);
    }

    private static void promise29Faults() {
        fault("", 0);
        fault("   ", 3);
        fault("walk", 4);
        fault("walk  ", 6);
        fault("  toil s", 2);
        fault("walkd", 0);
        fault("talk d", 0);
        fault("poll s", 0);
        fault("wine c", 0);
        fault("walk dz", 5);
        fault("walk az", 5);
        fault("walk d~", 6);
        fault("walk d`", 6);
        fault("walk d{", 6);
        fault("walk d1", 6);
        fault("walk d:", 6);
        fault("Walk d", 0);
        fault("\twalk d", 0);
        fault("walk\td", 4);
        fault("5", 0);
        fault("(d)", 0);
        fault("walk12", 4);
        fault("walk s", 5);
        fault("walk l", 5);
        fault("toll d", 5);
        fault("toll h", 5);
        fault("fine d", 5);
        fault("fine s", 5);
        fault("walk dc", 5);
        fault("walk d c", 7);
        fault("walk d 1", 7);
        fault("walk 1d", 6);
        fault("walk 1 2", 7);
        fault("walk 12345", 5);
        fault("walk 1234 5", 10);
        fault("walk 00000", 5);
        fault("walk d+", 7);
        fault("walk d+ ", 8);
        fault("walk d++c", 7);
        fault("walk -d", 5);
        fault("walk d<c<h", 8);
        fault("walk d<c=h", 8);
        fault("walk d<c&", 9);
        fault("walk (d", 7);
        fault("walk (d+c", 9);
        fault("walk (d<c<h)", 9);
        fault("walk d)", 6);
        fault("walk (d))", 8);
        fault("walk ()", 6);
        fault("walk (d)c", 8);
        fault("walk d!c", 6);
        fault("walk !", 6);
        fault("walk d walk c", 7);
        fault("walk walk", 5);
        fault("walk d\0", 6);
        fault("walk \u00e9", 5);
    }

    private static void taken(String bytes) {
        NoonFields x = new NoonFields();
        Due.text(x, bytes, 0);
    }

    private static void promise29Depths() {
        taken("walk(d)");
        taken("walk!d");
        taken("  walk   (  d+  c)<12  ");
        taken("walk d<c&c<h|d=1");
        taken("walk (d<c)<h");
        taken("walk " + times("(", 8) + "d" + times(")", 8));
        fault("walk " + times("(", 9) + "d" + times(")", 9), 13);
        taken("walk " + times("!", 8) + "d");
        fault("walk " + times("!", 9) + "d", 13);
        taken("walk " + times("(", 8) + times("!", 8) + "d" + times(")", 8));
        taken("walk " + times("!", 8) + times("(", 8) + "d" + times(")", 8));
        fault("walk " + times("!", 8) + "(!d)", 14);
        taken("walk " + times("!", 7) + "(!d+!c)+" + times("!", 8) + "h");
        fault("walk " + times("!", 7) + "(!d+!!c)", 17);
        taken("walk !(d)+" + times("!", 8) + "h");
        taken("walk (d)+" + times("(", 8) + "d" + times(")", 8));
        fault("walk (d)+" + times("(", 9), 17);
        fault("walk " + times("(", 8), 13);
        taken("walk " + times("1+", 45) + "1");
        fault("walk " + times("1+", 45) + "+", 95);
    }

    private static void promise29Full() {
        NoonFields x = new NoonFields();
        for (int k = 0; k < 14; k++) {
            Due.text(x, "toll " + k, k);
        }
        Due.text(x, "toll 99", Due.FULL);
        Due.text(x, "toll d", -105);
        Due.is("TEXTS", x.count(4), 14);
        Due.is("the last one counts", x.toll(), 13);
        Due.is("why", x.why(1), 13);
    }

    private static void promise30And31() {
        NoonFields x = new NoonFields();
        for (int key = 0; key < 3; key++) {
            Due.is("why without a TEXT", x.why(key), Due.NONE);
        }
        Due.is("no TEXT", x.textTold(0, 0), Due.BAD);
        Due.text(x, "fine h+c*(h-12)", 0);
        Due.text(x, "walk !!d", 1);
        Due.text(x, "toll 1+s<l", 2);
        Due.text(x, "walk 3", 3);
        int[] keys = {2, 0, 1, 0};
        int[] operands = {4, 1, 3, 1};
        for (int text = 0; text < 4; text++) {
            Due.is("KEY of " + text, x.textTold(text, 0), keys[text]);
            Due.is("NUMBERS and NAMES of " + text, x.textTold(text, 1), operands[text]);
        }
        Due.is("why walk", x.why(0), 3);
        Due.is("why toll", x.why(1), 2);
        Due.is("why fine", x.why(2), 0);
    }

    private static void textsAndImages() {
        NoonFields x = new NoonFields();
        x.person(0, 0, 0);
        Due.text(x, "walk 5", 0);
        x.keep();
        Due.text(x, "walk 7", 1);
        Due.text(x, "toll 3", 2);
        Due.is("WALK by the last", x.walk(0, 0, 0), 7);
        x.tell(5);
        x.tell(89);
        Due.is("check by THE IMAGE's TEXTS", x.check(1), 0);
        x.back();
        Due.is("TEXTS are back", x.count(4), 1);
        Due.is("WALK is back", x.walk(0, 0, 0), 5);
        Due.is("toll is back", x.toll(), 0);
        Due.is("why is back", x.why(1), Due.NONE);
        Due.is("textTold is back", x.textTold(1, 0), Due.BAD);
        Due.text(x, "walk 9", 1);
        Due.is("WALK by a new one", x.walk(0, 0, 0), 9);
        x.back();
        Due.is("WALK is back again", x.walk(0, 0, 0), 5);
    }
}
