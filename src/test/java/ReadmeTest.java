import java.io.IOException;
import java.lang.reflect.Field;
import java.lang.reflect.InvocationTargetException;
import java.lang.reflect.Method;
import java.lang.reflect.Modifier;
import java.nio.file.Files;
import java.nio.file.Path;
import java.util.ArrayList;
import java.util.List;
import java.util.Map;
import java.util.Random;
import java.util.TreeMap;
import java.util.TreeSet;
import java.util.function.Supplier;
import java.util.regex.Matcher;
import java.util.regex.Pattern;

/** README.md: its examples answer as told there, its tables name each call, each constant, each refusal. */
final class ReadmeTest {
    private static final Pattern EXAMPLE = Pattern.compile("noon\\.(\\w+)\\(([^)]*)\\); +// (-?\\w+).*");
    private static final Pattern ROW = Pattern.compile("\\| `(\\w+)\\(([^)]*)\\)` +\\|.*\\|([^|]*)\\|");
    private static final Pattern CONSTANT = Pattern.compile("\\| `([A-Z]+)` +\\| (-\\d+) +\\|.*");
    private static final Pattern NAME = Pattern.compile("`([A-Z]+)`");
    private static final int ROUNDS = 600;

    private final Map<String, Method> methods = new TreeMap<>();
    private final Map<String, Integer> constants = new TreeMap<>();
    private final Random chance = new Random(9);

    private ReadmeTest() throws IllegalAccessException {
        for (Method m : NoonFields.class.getDeclaredMethods()) {
            if (Modifier.isPublic(m.getModifiers())) {
                methods.put(m.getName(), m);
            }
        }
        for (Field f : NoonFields.class.getDeclaredFields()) {
            if (Modifier.isPublic(f.getModifiers())) {
                constants.put(f.getName(), f.getInt(null));
            }
        }
    }

    public static void main(String[] args) throws IOException, ReflectiveOperationException {
        List<String> lines = Files.readAllLines(Path.of("README.md"));
        ReadmeTest test = new ReadmeTest();
        test.examples(lines);
        test.constants(lines);
        test.calls(lines);
        Due.end("ReadmeTest");
    }

    private void examples(List<String> lines) throws ReflectiveOperationException {
        NoonFields noon = new NoonFields();
        int calls = 0;
        for (String line : lines) {
            Matcher m = EXAMPLE.matcher(line);
            if (line.startsWith("NoonFields noon = ")) {
                noon = new NoonFields();
            } else if (m.matches()) {
                Due.is("README: " + line, call(noon, m.group(1), numbers(m.group(2))), number(m.group(3)));
                calls++;
            } else if (line.startsWith("noon.")) {
                Due.tell("README: not to be read: " + line);
            }
        }
        Due.is("examples in README", calls > 30 ? 1 : 0, 1);
    }

    private void constants(List<String> lines) {
        Map<String, Integer> told = new TreeMap<>();
        for (String line : lines) {
            Matcher m = CONSTANT.matcher(line);
            if (m.matches()) {
                told.put(m.group(1), Integer.valueOf(m.group(2)));
            }
        }
        Due.isSame("constants in README", told.toString(), constants.toString());
    }

    private void calls(List<String> lines) throws ReflectiveOperationException {
        TreeSet<String> told = new TreeSet<>();
        for (String line : lines) {
            Matcher m = ROW.matcher(line);
            if (m.matches()) {
                String name = m.group(1);
                Due.is("README tells " + name + " once", told.add(name) ? 1 : 0, 1);
                if (methods.containsKey(name)) {
                    Due.is("arguments of " + name + " in README", m.group(2).isEmpty() ? 0 : m.group(2).split(",").length,
                            methods.get(name).getParameterCount());
                    Due.isSame("what refuses " + name, refusals(name).toString(), named(m.group(3)).toString());
                }
            }
        }
        Due.isSame("calls in README", told.toString(), new TreeSet<>(methods.keySet()).toString());
    }

    private static TreeSet<String> named(String refused) {
        TreeSet<String> named = new TreeSet<>();
        Matcher m = NAME.matcher(refused);
        while (m.find()) {
            named.add(m.group(1));
        }
        if (refused.contains("a FAULT")) {
            named.add("a FAULT");
        }
        Due.is("'never' alone in README: " + refused, refused.contains("never") ? 1 : 0, named.isEmpty() ? 1 : 0);
        return named;
    }

    /** All that a call is refused with, by calls on objects in several states. */
    private TreeSet<String> refusals(String name) throws ReflectiveOperationException {
        TreeSet<String> found = new TreeSet<>();
        List<Supplier<NoonFields>> states = List.of(NoonFields::new, Made::busy, ReadmeTest::full, ReadmeTest::narrow,
                ReadmeTest::deserted);
        for (Supplier<NoonFields> state : states) {
            for (int k = 0; k < ROUNDS; k++) {
                int[] a = new int[methods.get(name).getParameterCount()];
                for (int at = 0; at < a.length; at++) {
                    a[at] = argument();
                }
                int answer = call(state.get(), name, a);
                constants.forEach((constant, number) -> {
                    if (number == answer) {
                        found.add(constant);
                    }
                });
                if (name.equals("text") && answer <= -100 && answer >= -196) {
                    found.add("a FAULT");
                }
            }
        }
        return found;
    }

    private int argument() {
        switch (chance.nextInt(12)) {
            case 0: return Due.NONE;
            case 1: return chance.nextInt();
            case 2: return -1;
            case 3: return chance.nextInt(130);
            default: return chance.nextInt(5);
        }
    }

    /** Eight of PEOPLE, 14 TEXTS, 60 numbers that wait, 96 bytes, SLOTS that hold one of each thing. */
    private static NoonFields full() {
        NoonFields x = Made.busy();
        x.deal(8);
        for (int k = x.count(4); k < 14; k++) {
            Due.text(x, "fine c");
        }
        for (int k = x.count(5); k < 60; k++) {
            x.tell(k);
        }
        Due.feed(x, "toll l" + " ".repeat(90));
        return x;
    }

    /** No ROOM, so that nobody finds a FIELD and no two stand together; HOURS as a SHEET has them. */
    private static NoonFields narrow() {
        NoonFields x = Made.neighbours(3, 4);
        Made.rooms(x, 0);
        x.sheet(0, 1, 3);
        return x;
    }

    /** Nobody there, but SHEETS. */
    private static NoonFields deserted() {
        NoonFields x = new NoonFields();
        for (int sheet = 0; sheet < 4; sheet++) {
            x.sheet(sheet, 1, 9);
        }
        return x;
    }

    private int[] numbers(String arguments) {
        if (arguments.isEmpty()) {
            return new int[0];
        }
        List<Integer> numbers = new ArrayList<>();
        for (String argument : arguments.split(", *")) {
            numbers.add(number(argument));
        }
        return numbers.stream().mapToInt(Integer::intValue).toArray();
    }

    private int number(String word) {
        return constants.containsKey(word) ? constants.get(word) : Integer.decode(word);
    }

    private int call(NoonFields x, String name, int[] a) throws ReflectiveOperationException {
        Object[] of = new Object[a.length];
        for (int k = 0; k < a.length; k++) {
            of[k] = a[k];
        }
        if (!methods.containsKey(name)) {
            Due.tell("README: no such call: " + name);
            return 0;
        }
        try {
            return (Integer) methods.get(name).invoke(x, of);
        } catch (InvocationTargetException thrown) {
            throw new IllegalStateException(name, thrown);
        }
    }
}
