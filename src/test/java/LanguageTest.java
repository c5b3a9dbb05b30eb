import java.io.IOException;
import java.lang.reflect.Field;
import java.lang.reflect.Member;
import java.lang.reflect.Method;
import java.lang.reflect.Modifier;
import java.nio.file.Files;
import java.nio.file.Path;
import java.util.Arrays;
import java.util.Set;
import java.util.TreeSet;
import java.util.regex.Matcher;
import java.util.regex.Pattern;

/** The public face, and the rules of ../shared/LANGUAGE.md that can be seen from the class and its source. */
final class LanguageTest {
    private static final String FACE = "person/3 told/2 walk/3 as/2 turns/2 set/3 talk/3 field/2 lays/3 far/2 late/1 "
            + "deal/1 seed/1 noons/1 year/1 best/1 behind/2 has/3 rota/1 sold/3 nobodys/2 beside/2 atHome/3 toll/0 "
            + "fine/1 feed/3 trim/1 text/0 textTold/2 why/1 sheet/3 mark/3 pour/1 reads/1 copy/5 lay/3 ask/2 item/2 "
            + "rest/2 tell/1 check/1 keep/0 back/0 count/1";
    private static final String[] BANNED = {"throw", "throws", "try", "catch", "synchronized", "assert", "import",
        "->", "::", "@", "Math\\.\\w+Exact", "equals\\(", "hashCode", "toString", "System\\.(?!arraycopy)", "Random",
        "NaN", "float", "double", "Object\\b", "var\\b", "yield", "sealed", "static \\{"};

    public static void main(String[] args) throws IOException {
        face();
        constants();
        insideClasses();
        String code = withoutComments(Files.readString(Path.of("src/main/java/NoonFields.java")));
        for (String banned : BANNED) {
            Matcher m = Pattern.compile((Character.isLetter(banned.charAt(0)) ? "\\b" : "") + banned
                    + (banned.matches("\\w+") ? "\\b" : "")).matcher(code);
            if (m.find()) {
                Due.tell("the source has " + m.group());
            }
        }
        lengths(code);
        Due.end("LanguageTest");
    }

    private static void face() {
        Set<String> due = new TreeSet<>(Arrays.asList(FACE.split(" ")));
        Set<String> got = new TreeSet<>();
        for (Method m : NoonFields.class.getDeclaredMethods()) {
            if (Modifier.isPublic(m.getModifiers())) {
                got.add(m.getName() + "/" + m.getParameterCount());
                Due.is(m + " answers an int", m.getReturnType() == int.class ? 1 : 0, 1);
                Due.is(m + " takes ints", Arrays.stream(m.getParameterTypes()).allMatch(t -> t == int.class) ? 1 : 0, 1);
                Due.is(m + " is not static", Modifier.isStatic(m.getModifiers()) ? 1 : 0, 0);
            } else {
                onlyPrivate(m);
                Due.is("the name of a public one on " + m, FACE.matches("(.* )?" + m.getName() + "/.*") ? 1 : 0, 0);
            }
        }
        Due.isSame("the face", got.toString(), due.toString());
        Due.is("constructors", NoonFields.class.getDeclaredConstructors().length, 1);
        Due.is("public constructors", NoonFields.class.getConstructors().length, 1);
        Due.is("public and final", NoonFields.class.getModifiers() & (Modifier.PUBLIC | Modifier.FINAL),
                Modifier.PUBLIC | Modifier.FINAL);
    }

    private static void onlyPrivate(Member m) {
        Due.is(m + " is private", Modifier.isPrivate(m.getModifiers()) ? 1 : 0, 1);
    }

    private static void constants() {
        Set<String> got = new TreeSet<>();
        for (Field f : NoonFields.class.getDeclaredFields()) {
            if (Modifier.isPublic(f.getModifiers())) {
                got.add(f.getName());
                Due.is(f + " is a constant", Modifier.isStatic(f.getModifiers()) && Modifier.isFinal(f.getModifiers())
                        && f.getType() == int.class ? 1 : 0, 1);
            } else {
                onlyPrivate(f);
            }
        }
        Due.isSame("the constants", got.toString(), "[BAD, FULL, INDEX, KIND, NO, NONE, NOTHING, SIZE]");
        int[][] same = {{NoonFields.BAD, Due.BAD}, {NoonFields.NO, Due.NO}, {NoonFields.FULL, Due.FULL},
            {NoonFields.NONE, Due.NONE}, {NoonFields.NOTHING, Due.NOTHING}, {NoonFields.KIND, Due.KIND},
            {NoonFields.INDEX, Due.INDEX}, {NoonFields.SIZE, Due.SIZE}};
        for (int[] pair : same) {
            Due.is("a constant", pair[0], pair[1]);
        }
    }

    private static void insideClasses() {
        Class<?>[] inside = NoonFields.class.getDeclaredClasses();
        Due.is("some twelve classes at most", inside.length + 1 <= 12 ? 1 : 0, 1);
        for (Class<?> c : inside) {
            Due.is(c + " is static", Modifier.isStatic(c.getModifiers()) ? 1 : 0, 1);
            Due.is(c + " is not public or protected",
                    c.getModifiers() & (Modifier.PUBLIC | Modifier.PROTECTED), 0);
            fields(c);
        }
        fields(NoonFields.class);
    }

    private static void fields(Class<?> c) {
        int own = 0;
        for (Field f : c.getDeclaredFields()) {
            if (Modifier.isStatic(f.getModifiers())) {
                Due.is(f + " is final", Modifier.isFinal(f.getModifiers()) ? 1 : 0, 1);
            } else {
                own++;
            }
        }
        Due.is(c + " has some twenty fields at most", own <= 20 ? 1 : 0, 1);
        for (Method m : c.getDeclaredMethods()) {
            Due.is(m + " takes seven at most", m.getParameterCount() <= 7 ? 1 : 0, 1);
        }
    }

    private static String withoutComments(String source) {
        return source.replaceAll("(?s)/\\*.*?\\*/", "").replaceAll("//.*", "");
    }

    private static void lengths(String code) {
        int begun = -1;
        String[] lines = code.split("\n");
        for (int k = 0; k < lines.length; k++) {
            if (lines[k].matches(" {4}( {4})?\\S.*\\) \\{") && !lines[k].matches(" *(if|for|while|switch).*")) {
                begun = k;
            } else if (lines[k].matches(" {4}( {4})?\\}") && begun >= 0) {
                Due.is("a method of sixty lines at most at line " + begun, k - begun < 60 ? 1 : 0, 1);
                begun = -1;
            }
        }
    }
}
