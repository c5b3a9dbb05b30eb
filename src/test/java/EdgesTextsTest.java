/** The sentences of the document that name a boundary case: Terms 4, promises 25 to 31; a test for each. */
final class EdgesTextsTest {
    private static final int LOW = Integer.MIN_VALUE, HIGH = Integer.MAX_VALUE;
    private static final String LETTERS = "abcdefghijklmnopqrstuvwxyz";
    /** "toll" and blanks. */
    private static final int TOLL = 0x746f6c6c, BLANKS = 0x20202020;

    public static void main(String[] args) {
        Due.sentence("4: TEXTS, 14 at most, numbered from 0", EdgesTextsTest::fourteen);
        Due.sentence("4: THE TAPE, 96 bytes at most", EdgesTextsTest::ninetySix);
        Due.sentence("4: an act that reads it uses it up, whatever it answers", EdgesTextsTest::usedUp);
        Due.sentence("4: KEY: walk | toll | fine", EdgesTextsTest::key);
        Due.sentence("4: the loosest first", EdgesTextsTest::loosestFirst);
        Due.sentence("4: TEST: SUM [ (< | = | >) SUM ]", EdgesTextsTest::oneTest);
        Due.sentence("4: NUMBER (1 to 4 digits)", EdgesTextsTest::number);
        Due.sentence("4: NAMES, each one letter", EdgesTextsTest::names);
        Due.sentence("4: h whether it HAS HAD it (1, 0)", EdgesTextsTest::had);
        Due.sentence("4: what toll gives; without a TEXT: STEPS", EdgesTextsTest::tollWithout);
        Due.sentence("4: what fine gives; without a TEXT: HOURS", EdgesTextsTest::fineWithout);
        words();
        faults();
        Due.sentence("4: ints wrap", EdgesTextsTest::wraps);
        Due.sentence("4: / is 0 by 0 (and cuts towards 0)", EdgesTextsTest::byZero);
        Due.sentence("4: tests, & | ! give 1 or 0 (what is not 0 is true)", EdgesTextsTest::oneOrZero);
        Due.sentence("4: (both sides are worked out)", EdgesTextsTest::bothSides);
        Due.sentence("4: of a KEY that TEXT counts that was told last", EdgesTextsTest::toldLast);
        promises();
        Due.end("EdgesTextsTest");
    }

    private static void words() {
        Due.sentence("4: a word is a row of letters a .. z, or of digits, as long as it goes", EdgesTextsTest::rows);
        Due.sentence("4: any other byte is a sign by itself", EdgesTextsTest::anyByteForAPiece);
        Due.sentence("4: any other byte is a sign by itself", EdgesTextsTest::anyByteBehindAPiece);
        Due.sentence("4: any other byte is a sign by itself", EdgesTextsTest::anyByteBehindTheKey);
        Due.sentence("4: any other byte is a sign by itself", EdgesTextsTest::anyByteAhead);
        Due.sentence("4: between words and signs, and at the ends, there may be blanks", EdgesTextsTest::blanks);
        Due.sentence("4: a word right behind another one needs one", EdgesTextsTest::needsBlank);
    }

    private static void faults() {
        Due.sentence("4: FAULT: the first byte of the first word or sign with which no TEXT goes on",
                EdgesTextsTest::firstFault);
        Due.sentence("4: FAULT: a word that needs a blank ahead of it", EdgesTextsTest::faultOfBlank);
        Due.sentence("4: FAULT: a NUMBER of more than 4 digits", EdgesTextsTest::faultOfDigits);
        Due.sentence("4: FAULT: the ninth ( that would be open within others", EdgesTextsTest::ninthOpen);
        Due.sentence("4: FAULT: the ninth ! likewise (open till its PIECE ends)", EdgesTextsTest::ninthNot);
        Due.sentence("4: FAULT: ( and !, each by itself", EdgesTextsTest::eachByItself);
        Due.sentence("4: FAULT: the end (the place behind the last byte), if it comes too soon",
                EdgesTextsTest::endTooSoon);
    }

    private static void promises() {
        Due.sentence("Promise 25: what toll gives", EdgesTextsTest::tollAny);
        Due.sentence("Promise 26: BAD", EdgesTextsTest::fineBad);
        Due.sentence("Promise 27: the highest of each number first", EdgesTextsTest::highestFirst);
        Due.sentence("Promise 27: twelve bytes: how many it has", EdgesTextsTest::feedMany);
        Due.sentence("Promise 27: FULL: it would have more than 96", EdgesTextsTest::feedFull);
        Due.sentence("Promise 28: keeps its first n bytes", EdgesTextsTest::trimFirst);
        Due.sentence("Promise 28: BAD", EdgesTextsTest::trimBad);
        Due.sentence("Promise 29: its number", EdgesTextsTest::textNumber);
        Due.sentence("Promise 29: -100 less the place of its FAULT", EdgesTextsTest::textFault);
        Due.sentence("Promise 29: FULL", EdgesTextsTest::textFull);
        Due.sentence("Promise 30: KEY, how many NUMBERS and NAMES", EdgesTextsTest::textTold);
        Due.sentence("Promise 30: BAD", EdgesTextsTest::textToldBad);
        Due.sentence("Promise 31: the TEXT that counts; NONE", EdgesTextsTest::whyNone);
        Due.sentence("Promise 31: BAD", EdgesTextsTest::whyBad);
    }

    private static void taken(String bytes) {
        Due.text(new NoonFields(), bytes, 0);
    }

    private static void fault(String bytes, int place) {
        NoonFields x = new NoonFields();
        Due.text(x, bytes, -100 - place);
        Due.is("TEXTS behind " + bytes, x.count(4), 0);
    }

    private static void gives(String e, int want) {
        NoonFields x = new NoonFields();
        Due.text(x, "toll " + e, 0);
        Due.is("what toll " + e + " gives", x.toll(), want);
    }

    // ---- TEXTS, THE TAPE

    private static NoonFields withTexts(int many) {
        NoonFields x = new NoonFields();
        for (int k = 0; k < many; k++) {
            Due.text(x, "toll " + k + "+l", k);
        }
        return x;
    }

    private static void fourteen() {
        NoonFields x = withTexts(14);
        Due.is("TEXTS", x.count(4), 14);
        Due.is("the first one", x.textTold(0, 1), 2);
        Due.is("the last one", x.textTold(13, 1), 2);
        Due.is("no more", x.textTold(14, 1), Due.BAD);
        Due.text(x, "toll 99", Due.FULL);
        Due.is("TEXTS", x.count(4), 14);
        Due.is("toll", x.toll(), 13);
    }

    private static void ninetySix() {
        NoonFields x = new NoonFields();
        for (int k = 1; k <= 8; k++) {
            Due.is("bytes", x.feed(BLANKS, BLANKS, BLANKS), 12 * k);
        }
        Due.is("bytes", x.count(6), 96);
        Due.is("97 and more", x.feed(BLANKS, BLANKS, BLANKS), Due.FULL);
        Due.is("bytes", x.count(6), 96);
        taken("toll " + "1+".repeat(45) + "1");
        NoonFields y = new NoonFields();
        Due.text(y, "toll " + "1+".repeat(43) + "(1-2)", 0);
        Due.is("all 96 bytes are read", y.toll(), 42);
        NoonFields z = new NoonFields();
        Due.text(z, "toll 0" + "+1".repeat(45), 0);
        Due.is("the last byte is read", z.toll(), 45);
        fault(" ".repeat(96), 96);
        fault("toll" + " ".repeat(92), 96);
        taken("toll" + " ".repeat(91) + "s");
        taken("toll s" + " ".repeat(90));
        fault("toll s" + " ".repeat(89) + "s", 95);
    }

    private static void usedUp() {
        NoonFields x = withTexts(13);
        Due.feed(x, "toll 1");
        Due.is("a TEXT", x.text(), 13);
        Due.is("bytes", x.count(6), 0);
        Due.is("nothing is left of it", x.text(), -100);
        Due.feed(x, "toll ?");
        Due.is("a FAULT", x.text(), -105);
        Due.is("bytes", x.count(6), 0);
        Due.feed(x, "toll 2");
        Due.is("one too many", x.text(), Due.FULL);
        Due.is("bytes", x.count(6), 0);
        Due.is("the empty one", x.text(), -100);
        Due.is("feed begins anew", x.feed(0, 0, 0), 12);
        NoonFields y = Made.busy();
        y.keep();
        y.back();
        y.noons(1);
        y.walk(0, 0, 0);
        y.toll();
        y.fine(0);
        y.textTold(0, 0);
        y.why(0);
        y.check(1);
        y.sheet(0, -1, 0);
        y.lay(0, 0, 0);
        Due.is("other acts leave it", y.count(6), 12);
        Due.is("it is as it was fed", y.text(), 2);
    }

    // ---- words, KEY E

    private static void key() {
        String[] keys = {"walk", "toll", "fine"};
        for (int k = 0; k < 3; k++) {
            NoonFields x = new NoonFields();
            Due.text(x, keys[k] + " 1", 0);
            Due.is("KEY", x.textTold(0, 0), k);
            for (int at = 0; at < 4; at++) {
                String one = keys[k].substring(0, at);
                String rest = keys[k].substring(at + 1);
                fault(one + rest + " 1", 0);
                fault(one + "x" + rest + " 1", 0);
                fault(one + (char) (keys[k].charAt(at) - 32) + rest + " 1", 0);
            }
            fault(keys[k] + "s 1", 0);
            fault("x" + keys[k] + " 1", 0);
            fault(keys[k] + " " + keys[k], 5);
            fault("  " + keys[k] + "x 1", 2);
        }
        fault("1", 0);
        fault("s", 0);
        fault("(walk 1)", 0);
        fault("!walk 1", 0);
        fault("wa lk 1", 0);
    }

    private static void loosestFirst() {
        gives("1|1&0", 1);
        gives("0&0|1", 1);
        gives("0&1=1", 0);
        gives("2&1<3", 1);
        gives("1|0=5", 1);
        gives("1<2+3", 1);
        gives("2+3>4", 1);
        gives("4=2+2", 1);
        gives("7-2*3", 1);
        gives("7*2-3", 11);
        gives("8/2+2", 6);
        gives("!1+1", 1);
        gives("!1*5+2", 2);
        gives("!0=1", 1);
        gives("!(0=1)", 1);
        gives("9-4-3", 2);
        gives("64/4/2", 8);
        gives("64/4*2", 32);
        gives("9-4+3", 8);
        gives("5*(2+1)", 15);
    }

    private static void oneTest() {
        for (String first : new String[] {"<", "=", ">"}) {
            taken("toll s" + first + "l");
            for (String second : new String[] {"<", "=", ">"}) {
                fault("toll s" + first + "l" + second + "1", 8);
                fault("toll s" + first + second + "1", 7);
                fault("toll (s" + first + "l" + second + "1)", 9);
                taken("toll (s" + first + "l)" + second + "1");
                taken("toll s" + first + "(l" + second + "1)");
                taken("toll s" + first + "l&s" + second + "1");
                taken("toll s" + first + "l|s" + second + "1");
                fault("toll s" + first + "l+s" + second + "1", 10);
            }
        }
    }

    private static void number() {
        gives("0", 0);
        gives("9", 9);
        gives("10", 10);
        gives("999", 999);
        gives("1000", 1000);
        gives("9999", 9999);
        gives("0000", 0);
        gives("0009", 9);
        gives("0123", 123);
        fault("toll 10000", 5);
        fault("toll 00000", 5);
        fault("toll 99999", 5);
        fault("toll 012345", 5);
        fault("toll " + "1".repeat(91), 5);
        fault("toll -1", 5);
        fault("toll +1", 5);
        fault("toll 1.5", 6);
    }

    private static void names() {
        String[] keys = {"walk", "toll", "fine"};
        String[] names = {"dch", "sl", "hc"};
        for (int k = 0; k < 3; k++) {
            for (int letter = 0; letter < 26; letter++) {
                String name = LETTERS.substring(letter, letter + 1);
                if (names[k].contains(name)) {
                    taken(keys[k] + " " + name);
                    taken(keys[k] + " !" + name + "+(" + name + ")");
                } else {
                    fault(keys[k] + " " + name, 5);
                    fault(keys[k] + " 1+" + name, 7);
                }
                fault(keys[k] + " " + name + name, 5);
                fault(keys[k] + " 1+" + name + names[k], 7);
            }
        }
        NoonFields x = new NoonFields();
        x.person(0, 1, 0);
        Due.text(x, "walk d*100+c", 0);
        x.lays(5, 1, 47);
        Due.is("d and c", x.walk(0, 5, 0), 247);
    }

    private static void had() {
        NoonFields x = Made.neighbours(2, 0);
        Due.text(x, "walk h*40+d", 0);
        for (int f = 0; f < 9; f++) {
            Due.is("WALK ahead", x.walk(0, f, 0), x.far(0, f));
        }
        x.lays(0, 2, 0);
        x.lays(1, 2, 0);
        x.noons(1);
        Due.is("where 0 was", x.walk(0, 3, 0), 41);
        Due.is("where 1 was", x.walk(0, 2, 0), 2);
        Due.is("of the other one", x.walk(1, 3, 0), 1);
        Due.is("of the other one", x.walk(1, 2, 0), 42);
        NoonFields y = Made.neighbours(1, 0);
        Due.text(y, "walk h", 0);
        y.noons(9);
        for (int f = 0; f < 9; f++) {
            Due.is("h is 1", y.walk(0, f, 0), 1);
        }
        y.noons(1);
        Due.is("h is 1 where it was twice", y.walk(0, 0, 0), 1);
    }

    private static void tollWithout() {
        NoonFields x = Made.neighbours(1, 0);
        Due.is("no STEPS", x.toll(), 0);
        x.noons(2);
        Due.is("STEPS", x.toll(), 19);
        Due.text(x, "walk 5", 0);
        Due.text(x, "fine 6", 1);
        Due.is("TEXTS of other KEYS", x.toll(), 19);
        Due.text(x, "toll ?", -105);
        Due.is("a FAULT", x.toll(), 19);
        Due.text(x, "toll l", 2);
        Due.is("a TEXT", x.toll(), 0);
        Made.rooms(x, 0);
        x.noons(3);
        Due.is("LEFT", x.toll(), 3);
    }

    private static void fineWithout() {
        NoonFields x = Made.neighbours(2, 0);
        x.late(100);
        x.lays(0, 0, 1);
        Due.is("no HOURS", x.fine(1), 0);
        x.noons(2);
        Due.is("HOURS", x.fine(1), 2);
        Due.is("HOURS of the other", x.fine(0), 0);
        Due.text(x, "walk 5", 0);
        Due.text(x, "toll 6", 1);
        Due.is("TEXTS of other KEYS", x.fine(1), 2);
        x.set(1, 1, 8);
        x.noons(1);
        Due.text(x, "fine h*10+c", 2);
        Due.is("a TEXT", x.fine(1), 10 * x.told(1, 4) + x.told(1, 5));
        Due.is("a TEXT for the other", x.fine(0), 3);
    }

    private static void rows() {
        taken("walk d");
        fault("walka d", 0);
        fault("walkz d", 0);
        fault("walk dd", 5);
        fault("walk da", 5);
        fault("walk dz", 5);
        taken("walk 12");
        taken("walk 90");
        fault("walk 1d", 6);
        fault("walk d1", 6);
        fault("walk d0", 6);
        fault("walk d9", 6);
        gives("1+23*4", 93);
        gives("12=1+11", 1);
    }

    private static boolean isLetter(int b) {
        return b >= 'a' && b <= 'z';
    }

    private static boolean isDigit(int b) {
        return b >= '0' && b <= '9';
    }

    private static void anyByteForAPiece() {
        for (int b = 0; b < 256; b++) {
            String bytes = "walk " + (char) b;
            if (isDigit(b) || b == 'd' || b == 'c' || b == 'h') {
                taken(bytes);
            } else {
                fault(bytes, b == ' ' || b == '(' || b == '!' ? 6 : 5);
            }
        }
    }

    private static void anyByteBehindAPiece() {
        for (int b = 0; b < 256; b++) {
            String bytes = "walk d" + (char) b;
            if (b == ' ') {
                taken(bytes);
            } else {
                fault(bytes, isLetter(b) ? 5 : "+-*/<=>&|".indexOf(b) >= 0 ? 7 : 6);
            }
        }
    }

    private static void anyByteBehindTheKey() {
        for (int b = 0; b < 256; b++) {
            String bytes = "walk" + (char) b + "d";
            if (b == ' ' || b == '!') {
                taken(bytes);
            } else {
                fault(bytes, isLetter(b) ? 0 : b == '(' ? 6 : 4);
            }
        }
    }

    private static void anyByteAhead() {
        for (int b = 0; b < 256; b++) {
            String bytes = (char) b + "walk d";
            if (b == ' ') {
                taken(bytes);
            } else {
                fault(bytes, 0);
            }
        }
    }

    private static void blanks() {
        taken("walk d");
        taken("   walk   d   ");
        taken("walk ( d + c ) * ! h < 12 & 1 | 0");
        taken("walk(d+c)*!h<12&1|0");
        taken("walk  !  !  (  (  d  )  )  ");
        taken("walk!d");
        taken("walk(d)");
        gives("12 ", 12);
        gives(" 12", 12);
        fault("wal k d", 0);
        fault("walk 1 2", 7);
        fault("walk\td", 4);
        fault("walk\nd", 4);
        fault("walk d\r", 6);
        fault("walk d\0", 6);
        fault("walk d" + (char) 160, 6);
    }

    private static void needsBlank() {
        fault("walk12", 4);
        taken("walk 12");
        fault("walk d1", 6);
        fault("walk 1d", 6);
        fault("walkd", 0);
        taken("walk 1+d");
        taken("walk(1)");
        fault("walk 1(d)", 6);
        fault("walk (1)d", 8);
        fault("walk (1)2", 8);
        fault("toll9999", 4);
        fault("fine0 ", 4);
    }

    // ---- FAULTS

    private static void firstFault() {
        fault("walk d ? c ?", 7);
        fault("walk d + + c", 9);
        fault("walk ) d", 5);
        fault("walk (d))", 8);
        fault("walk ( )", 7);
        fault("walk (d c)", 8);
        fault("walk d !c", 7);
        fault("walk d (c)", 7);
        fault("walk * d", 5);
        fault("walk (d+)", 8);
        fault("walk (d&|c)", 8);
        fault("walk !)", 6);
        fault("walk !+d", 6);
        fault("walk d, c", 6);
        fault("walk d walk c", 7);
        fault("walk foo", 5);
        fault("foo bar", 0);
        fault("  foo", 2);
        fault("walk    foo", 8);
        fault("walk d    foo", 10);
        fault("walk d<=c", 7);
        fault("walk d==c", 7);
        fault("walk d&&c", 7);
        fault("walk d)(", 6);
    }

    private static void faultOfBlank() {
        fault("walk5", 4);
        fault("  walk5", 6);
        fault("walk 5d", 6);
        fault("walk (5d)", 7);
        fault("walk d5", 6);
        fault("walk d55555", 6);
        fault("walk !5h", 7);
        fault("walk55555", 4);
    }

    private static void faultOfDigits() {
        fault("walk 12345", 5);
        fault("walk 1+12345", 7);
        fault("walk (!12345", 7);
        fault("walk 1234 12345", 10);
        fault("walk   12345   ", 7);
        taken("walk 1234+1234");
    }

    private static String open(int many, String e) {
        return "(".repeat(many) + e + ")".repeat(many);
    }

    private static void ninthOpen() {
        taken("walk " + open(8, "d"));
        fault("walk " + open(9, "d"), 13);
        fault("walk " + open(10, "d"), 13);
        fault("walk " + "(".repeat(9), 13);
        fault("walk " + "(".repeat(91), 13);
        taken("walk " + open(8, "d") + "+" + open(8, "c"));
        fault("walk " + open(8, "d") + "+" + open(9, "c"), 31);
        taken("walk " + open(7, "(d)+(c)*(h)"));
        fault("walk " + open(7, "(d)+((c))"), 17);
        taken("walk " + "(d)+".repeat(20) + "(d)");
        fault("walk " + open(8, "d+(c)"), 15);
        taken("walk " + open(1, open(7, "d") + "+" + open(7, "c")));
        fault("walk ( ( ( ( ( ( ( ( ( d", 21);
    }

    private static void ninthNot() {
        taken("walk " + "!".repeat(8) + "d");
        fault("walk " + "!".repeat(9) + "d", 13);
        fault("walk " + "!".repeat(9), 13);
        fault("walk " + "!".repeat(91), 13);
        taken("walk " + "!".repeat(8) + "d+" + "!".repeat(8) + "c");
        fault("walk " + "!".repeat(8) + "d+" + "!".repeat(9) + "c", 23);
        taken("walk " + "!d+".repeat(20) + "!d");
        taken("walk " + "!".repeat(8) + "(d+c)");
        fault("walk " + "!".repeat(8) + "(d+!c)", 16);
        taken("walk " + "!".repeat(7) + "(!d+!c*!h)");
        fault("walk " + "!".repeat(7) + "(!d+!!c)", 17);
        taken("walk " + "!".repeat(8) + "(d)+!c");
        taken("walk !(!(!(!(!(!(!(!d)))))))");
        fault("walk !(!(!(!(!(!(!(!(!d))))))))", 21);
        taken("walk !(!(!(!(!(!(!(!d)+1)))))+" + "!".repeat(6) + "c)");
        fault("walk !(!(!(!(!(!(!(!d)+1)))))+" + "!".repeat(8) + "c)", 37);
        gives("!".repeat(8) + "5", 1);
        gives("!".repeat(7) + "5", 0);
    }

    private static void eachByItself() {
        taken("walk " + "!".repeat(8) + open(8, "d"));
        taken("walk " + "!(".repeat(8) + "d" + ")".repeat(8));
        fault("walk " + "!(".repeat(8) + "!d" + ")".repeat(8), 21);
        fault("walk " + "!(".repeat(8) + "(d" + ")".repeat(9), 21);
        taken("walk " + open(8, "!".repeat(8) + "d"));
        fault("walk " + open(8, "!".repeat(9) + "d"), 21);
        fault("walk " + "!".repeat(8) + open(9, "d"), 21);
    }

    private static void endTooSoon() {
        fault("", 0);
        fault(" ", 1);
        fault("      ", 6);
        fault("walk", 4);
        fault("walk ", 5);
        fault("walk  ", 6);
        fault("  walk  ", 8);
        fault("walk (", 6);
        fault("walk (d", 7);
        fault("walk (d  ", 9);
        fault("walk ((d)", 9);
        fault("walk d+", 7);
        fault("walk d<  ", 9);
        fault("walk !", 6);
        fault("walk d|c&", 9);
        NoonFields x = new NoonFields();
        Due.is("nothing was ever fed", x.text(), -100);
        x.feed(BLANKS, BLANKS, BLANKS);
        Due.is("twelve blanks", x.text(), -112);
    }

    // ---- what a TEXT gives

    private static void wraps() {
        gives("1024*1024*2048", LOW);
        gives("1024*1024*2048-1", HIGH);
        gives("1024*1024*2048-1+1", LOW);
        gives("0-1024*1024*2048", LOW);
        gives("1024*1024*4096", 0);
        gives("9999*9999*9999", -1027349969);
        gives("(1024*1024*2048)*(0-1)", LOW);
        gives("1024*1024*2048<0", 1);
        gives("1024*1024*2048-1>0", 1);
        gives("(1024*1024*2048-1)>(1024*1024*2048)", 1);
        gives("(1024*1024*2048)<(1024*1024*2048-1)", 1);
    }

    private static void byZero() {
        gives("7/0", 0);
        gives("0/0", 0);
        gives("(0-7)/0", 0);
        gives("7/(3-3)", 0);
        gives("5+7/0", 5);
        gives("7/0/0+1", 1);
        gives("7/l", 0);
        gives("7/2", 3);
        gives("(0-7)/2", -3);
        gives("7/(0-2)", -3);
        gives("(0-7)/(0-2)", 3);
        gives("1/2", 0);
        gives("(0-1)/2", 0);
        gives("(1024*1024*2048)/(0-1)", LOW);
        NoonFields x = Made.neighbours(1, 0);
        Due.text(x, "walk 100/c", 0);
        x.lays(0, 1, 0);
        Due.is("WALK by 0 CORN", x.walk(0, 0, 0), 0);
        x.lays(0, 1, 3);
        Due.is("WALK by CORN 3", x.walk(0, 0, 0), 33);
    }

    private static void oneOrZero() {
        gives("1<2", 1);
        gives("2<2", 0);
        gives("3<2", 0);
        gives("1=2", 0);
        gives("2=2", 1);
        gives("3=2", 0);
        gives("1>2", 0);
        gives("2>2", 0);
        gives("3>2", 1);
        gives("5&6", 1);
        gives("2&1", 1);
        gives("4&3", 1);
        gives("5&0", 0);
        gives("0&5", 0);
        gives("0&0", 0);
        gives("(0-1)&(0-2)", 1);
        gives("5|6", 1);
        gives("5|0", 1);
        gives("0|5", 1);
        gives("0|0", 0);
        gives("(0-1)|0", 1);
        gives("!0", 1);
        gives("!1", 0);
        gives("!2", 0);
        gives("!(0-1)", 0);
        gives("!!7", 1);
        gives("!!0", 0);
        gives("1024*1024*2048&1", 1);
    }

    /** Working out a side has no other effect than to find a FAULT in it. */
    private static void bothSides() {
        gives("0&7/0", 0);
        gives("1|7/0", 1);
        gives("0&1|1", 1);
        gives("1|1&0", 1);
        gives("(1|0)+(0&1)", 1);
        fault("toll 1|?", 7);
        fault("toll 0&?", 7);
        NoonFields x = new NoonFields();
        Due.text(x, "toll 1|s&l", 0);
        Due.is("NUMBERS and NAMES of both sides", x.textTold(0, 1), 3);
    }

    private static void toldLast() {
        NoonFields x = Made.neighbours(1, 0);
        Due.text(x, "walk 5", 0);
        Due.text(x, "walk 7", 1);
        Due.is("the last one", x.walk(0, 0, 0), 7);
        Due.text(x, "toll 8", 2);
        Due.text(x, "fine 9", 3);
        Due.is("one of another KEY", x.walk(0, 0, 0), 7);
        Due.text(x, "walk ", -105);
        Due.is("a FAULT", x.walk(0, 0, 0), 7);
        Due.text(x, "walk 3", 4);
        Due.is("the last one", x.walk(0, 0, 0), 3);
        Due.is("toll", x.toll(), 8);
        Due.is("fine", x.fine(0), 9);
        for (int k = 5; k < 14; k++) {
            Due.text(x, "walk " + k, k);
        }
        Due.text(x, "walk 99", Due.FULL);
        Due.is("the last one that was told", x.walk(0, 0, 0), 13);
        Due.is("why", x.why(0), 13);
    }

    // ---- promises

    private static void tollAny() {
        NoonFields x = new NoonFields();
        Due.is("nobody", x.toll(), 0);
        Due.text(x, "toll 0-1", 0);
        Due.is("below 0", x.toll(), -1);
        Due.text(x, "toll 9999*9999", 1);
        Due.is("not held", x.toll(), 99980001);
        Due.text(x, "toll 1024*1024*2048", 2);
        Due.is("the least int", x.toll(), LOW);
        NoonFields y = Made.neighbours(1, 0);
        Due.text(y, "fine 0-h-3", 0);
        Due.is("fine below 0", y.fine(0), -3);
        Due.text(y, "fine 9999*9999", 1);
        Due.is("fine not held", y.fine(0), 99980001);
    }

    private static void fineBad() {
        Due.only(Made::busy, "fine", 0, 3, (x, v) -> x.fine(v));
        Due.only(EdgesTextsTest::withoutFine, "fine without a TEXT", 0, 1, (x, v) -> x.fine(v));
    }

    private static NoonFields withoutFine() {
        return Made.neighbours(2, 0);
    }

    private static void highestFirst() {
        NoonFields x = new NoonFields();
        x.feed(TOLL, 0x20313233, 0x342b3536);
        Due.is("text", x.text(), 0);
        Due.is("toll 1234+56", x.toll(), 1290);
        NoonFields y = new NoonFields();
        y.feed(0xffffffff, 0x80808080, 0xfefefefe);
        Due.is("bytes above 127", y.text(), -100);
        y.feed(TOLL, 0x20732bff, BLANKS);
        Due.is("the byte 255", y.text(), -107);
        y.feed(TOLL, 0x20732b80, BLANKS);
        Due.is("the byte 128", y.text(), -107);
        y.feed(TOLL, 0x20732b00, BLANKS);
        Due.is("the byte 0", y.text(), -107);
        y.feed(0x74 << 24 | 0x6f6c6c, BLANKS, 0x20202039);
        Due.is("the last byte", y.text(), 0);
        Due.is("toll 9", y.toll(), 9);
    }

    private static void feedMany() {
        NoonFields x = new NoonFields();
        Due.is("the first", x.feed(0, 0, 0), 12);
        Due.is("the second", x.feed(LOW, HIGH, -1), 24);
        x.trim(1);
        Due.is("behind trim", x.feed(0, 0, 0), 13);
        Due.is("bytes", x.count(6), 13);
        NoonFields y = new NoonFields();
        y.feed(TOLL, BLANKS, BLANKS);
        y.trim(5);
        y.feed(0x33303030, 0x2b312020, BLANKS);
        Due.is("text", y.text(), 0);
        Due.is("what is fed comes behind what is kept", y.toll(), 3001);
    }

    private static NoonFields tapeOf(int bytes) {
        NoonFields x = new NoonFields();
        for (int k = 0; k < bytes; k += 12) {
            x.feed(TOLL, BLANKS, 0x20202031);
        }
        x.trim(bytes);
        return x;
    }

    private static void feedFull() {
        Due.is("84 and 12", tapeOf(84).feed(0, 0, 0), 96);
        Due.is("83 and 12", tapeOf(83).feed(0, 0, 0), 95);
        for (int bytes = 85; bytes <= 96; bytes++) {
            NoonFields x = tapeOf(bytes);
            Due.is(bytes + " and 12", x.feed(0, 0, 0), Due.FULL);
            Due.is("bytes", x.count(6), bytes);
        }
        NoonFields x = tapeOf(96);
        x.trim(12);
        NoonFields y = tapeOf(96);
        y.feed(-1, -1, -1);
        y.trim(12);
        Due.is("none of the twelve came", y.text(), x.text());
        Due.is("none of the twelve came", y.toll(), 1);
    }

    private static void trimFirst() {
        NoonFields x = new NoonFields();
        x.feed(TOLL, 0x20313233, 0x342b3536);
        Due.is("trim of all", x.trim(12), 12);
        Due.is("bytes", x.count(6), 12);
        Due.is("trim", x.trim(8), 8);
        Due.is("trim again", x.trim(8), 8);
        Due.is("text", x.text(), 0);
        Due.is("toll 123", x.toll(), 123);
        x.feed(TOLL, 0x20313233, 0x342b3536);
        Due.is("trim to one", x.trim(1), 1);
        Due.is("trim to none", x.trim(0), 0);
        Due.is("bytes", x.count(6), 0);
        Due.is("trim of none to none", x.trim(0), 0);
        Due.is("text of none", x.text(), -100);
    }

    private static void trimBad() {
        Due.only(Made::busy, "trim", 0, 12, (x, v) -> x.trim(v));
        Due.only(() -> tapeOf(96), "trim of 96", 0, 96, (x, v) -> x.trim(v));
        Due.only(NoonFields::new, "trim of none", 0, 0, (x, v) -> x.trim(v));
        NoonFields x = tapeOf(24);
        x.trim(10);
        Due.is("what was cut off is gone", x.trim(11), Due.BAD);
    }

    private static void textNumber() {
        NoonFields x = new NoonFields();
        for (int k = 0; k < 14; k++) {
            Due.text(x, k % 2 == 0 ? "toll s" : "fine ?", k % 2 == 0 ? k / 2 : -105);
        }
        Due.is("TEXTS", x.count(4), 7);
    }

    /** Nothing changes with a FAULT but THE TAPE. */
    private static void textFault() {
        for (String bytes : new String[] {"", "toll ?", "walk d+", "fine 12345", "x"}) {
            NoonFields x = Made.busy();
            Due.feed(x, bytes);
            int fault = x.text();
            Due.is("a FAULT", fault <= -100 && fault >= -196 ? 1 : 0, 1);
            NoonFields y = Made.busy();
            y.trim(0);
            Due.isSame("all behind a FAULT", Everything.of(x), Everything.of(y));
        }
        fault("?", 0);
        fault(" ".repeat(95) + "?", 95);
        fault(" ".repeat(96), 96);
    }

    private static void textFull() {
        NoonFields x = withTexts(13);
        Due.text(x, "walk 1", 13);
        NoonFields y = withTexts(14);
        Due.text(y, "walk 1", Due.FULL);
        Due.is("why", y.why(0), Due.NONE);
        Due.is("TEXTS", y.count(4), 14);
        Due.text(y, "walk ?", -105);
        Due.text(y, "", -100);
        Due.is("the last one counts", y.toll(), 13);
        Due.is("the last one", y.textTold(13, 1), 2);
    }

    private static void textTold() {
        NoonFields x = new NoonFields();
        Due.text(x, "walk d", 0);
        Due.text(x, "toll 1", 1);
        Due.text(x, "fine !!!(h)", 2);
        Due.text(x, "walk 1+d*c-h/9999<0|d&1", 3);
        Due.text(x, "toll " + "1+".repeat(45) + "1", 4);
        Due.text(x, "toll ?", -105);
        int[] keys = {0, 1, 2, 0, 1};
        int[] many = {1, 1, 1, 8, 46};
        for (int text = 0; text < 5; text++) {
            Due.is("KEY of " + text, x.textTold(text, 0), keys[text]);
            Due.is("NUMBERS and NAMES of " + text, x.textTold(text, 1), many[text]);
        }
        Due.is("a FAULT is no TEXT", x.textTold(5, 0), Due.BAD);
    }

    private static void textToldBad() {
        Due.only(Made::busy, "textTold text", 0, 1, (x, v) -> x.textTold(v, 0));
        Due.only(Made::busy, "textTold what", 0, 1, (x, v) -> x.textTold(1, v));
        Due.is("no TEXT", new NoonFields().textTold(0, 0), Due.BAD);
        Due.is("the last of 14", withTexts(14).textTold(13, 0), 1);
        Due.is("behind the last of 14", withTexts(14).textTold(14, 0), Due.BAD);
    }

    private static void whyNone() {
        String[] keys = {"walk 1", "toll 1", "fine 1"};
        for (int key = 0; key < 3; key++) {
            NoonFields x = new NoonFields();
            Due.text(x, keys[key], 0);
            for (int other = 0; other < 3; other++) {
                Due.is("why", x.why(other), other == key ? 0 : Due.NONE);
            }
            Due.text(x, keys[(key + 1) % 3], 1);
            Due.text(x, keys[key], 2);
            Due.is("why", x.why(key), 2);
            Due.is("why", x.why((key + 1) % 3), 1);
        }
        Due.refused(Made::busy, "no TEXT", Due.NONE, x -> x.why(1));
    }

    private static void whyBad() {
        Due.only(Made::busy, "why", 0, 2, (x, v) -> x.why(v));
    }
}
