import java.io.IOException;
import java.lang.reflect.Method;
import java.lang.reflect.Modifier;
import java.nio.file.DirectoryStream;
import java.nio.file.Files;
import java.nio.file.Path;
import java.util.HashMap;
import java.util.List;
import java.util.Map;
import java.util.Set;
import java.util.TreeSet;
import java.util.regex.Matcher;
import java.util.regex.Pattern;

/** What README.md says is true of the class as it stands; it is run from the project's folder. */
public final class ReadmeTest {
    private static final Check c = new Check();
    private static final Pattern CALL = Pattern.compile("(?:int (\\w+) = )?x\\.(\\w+)\\((.*)\\); +// (-?\\d+)(:.*)?");

    private final StoryClasses x = new StoryClasses();
    private final Map<String, Long> names = new HashMap<>();
    private final Set<String> called = new TreeSet<>();

    public static void main(String[] args) throws Exception {
        List<String> lines = Files.readAllLines(Path.of("README.md"));
        new ReadmeTest().program(lines);
        callsOfTheFace(lines);
        tableOfTests(lines);
        limits(lines);
        c.end();
    }

    private static void yes(String what, boolean is) {
        c.due(what, is ? 1 : 0, 1);
    }

    private void program(List<String> lines) throws ReflectiveOperationException {
        boolean inside = false;
        for (String line : lines) {
            if (line.startsWith("```")) {
                inside = line.equals("```java");
            } else if (inside && !line.equals("StoryClasses x = new StoryClasses();")) {
                Matcher m = CALL.matcher(line);
                boolean fits = m.matches();
                yes("a call with its answer: " + line, fits);
                if (fits) {
                    answer(line, m);
                }
            }
        }
        yes("its program uses most of the face: " + called, called.size() >= 15);
    }

    private void answer(String line, Matcher m) throws ReflectiveOperationException {
        called.add(m.group(2));
        long got = call(m.group(2), m.group(3).isEmpty() ? new String[0] : m.group(3).split(", "));
        if (m.group(1) != null) {
            names.put(m.group(1), got);
        }
        c.due(line, got, Long.parseLong(m.group(4)));
    }

    private long call(String name, String[] given) throws ReflectiveOperationException {
        for (Method method : StoryClasses.class.getMethods()) {
            Class<?>[] types = method.getParameterTypes();
            if (method.getName().equals(name) && types.length == given.length) {
                Object[] numbers = new Object[given.length];
                for (int i = 0; i < given.length; i++) {
                    Long named = names.get(given[i]);
                    long number = named == null ? Long.parseLong(given[i]) : named;
                    numbers[i] = types[i] == int.class ? (Object) Math.toIntExact(number) : (Object) number;
                }
                return ((Number) method.invoke(x, numbers)).longValue();
            }
        }
        throw new IllegalStateException("no such call: " + name);
    }

    /** The first column of the table of calls names each call of the face once. */
    private static void callsOfTheFace(List<String> lines) {
        Set<String> face = new TreeSet<>();
        for (Method method : StoryClasses.class.getDeclaredMethods()) {
            if (Modifier.isPublic(method.getModifiers())) {
                face.add(method.getName());
            }
        }
        for (String line : lines) {
            if (line.startsWith("| `")) {
                Matcher m = Pattern.compile("`(\\w+)`").matcher(line.substring(0, line.indexOf('|', 1)));
                while (m.find()) {
                    yes(m.group(1) + " is of the face, and told once", face.remove(m.group(1)));
                }
            }
        }
        c.due("calls that lack: " + face, face.size(), 0);
    }

    private static void tableOfTests(List<String> lines) throws IOException {
        Set<String> there = new TreeSet<>();
        try (DirectoryStream<Path> files = Files.newDirectoryStream(Path.of("src/test/java"), "*Test.java")) {
            for (Path file : files) {
                there.add(file.getFileName().toString().replace(".java", ""));
            }
        }
        for (String line : lines) {
            Matcher m = Pattern.compile("\\| (\\w+Test) \\|.*").matcher(line);
            if (m.matches()) {
                yes(m.group(1) + " is there, and told once", there.remove(m.group(1)));
            }
        }
        c.due("tests that lack: " + there, there.size(), 0);
    }

    /** The table of limits, word by word, and the class at each of them. */
    private static void limits(List<String> lines) {
        yes("memory", lines.contains(
            "| memory and things | 12 ROWS of 12 ITEMS, 12 THINGS; 3 KEPT, 6 KEEPINGS in a RUN |"));
        yes("routines", lines.contains("| routines | 12, each with 1 to 6 LOCALS, 30 OPS, 4 GUARDS |"));
        yes("a run", lines.contains("| a run | 300 STEPS, 24 FAULTS (the 25th ends it), 12 ROUTINES open, "
            + "8 numbers on a PILE, 60 in THE OUTPUT |"));
        limitsOfMaking();
        limitsOfARun();
        limitsOfKeeping();
    }

    private static void limitsOfMaking() {
        StoryClasses y = new StoryClasses();
        c.due("ROWS", y.row(11, 0, 12), 12);
        c.due("one ROW more", y.row(12, 0, 12), Check.BAD);
        c.due("one ITEM more", y.row(11, 0, 13), -10 - Check.ARGUMENT);
        for (int i = 0; i < 12; i++) {
            c.due("THINGS", y.thing(i % 6), i);
            c.due("ROUTINES", y.routine(1 + i % 6), i);
        }
        c.due("one THING more", y.thing(0), Check.FULL);
        c.due("one ROUTINE more", y.routine(1), Check.FULL);
        c.due("no LOCALS", y.routine(0), Check.BAD);
        c.due("one LOCAL more", y.routine(7), Check.BAD);
        for (int i = 0; i < 30; i++) {
            c.due("OPS", y.op(0, 28, 0, 0), i);
        }
        c.due("one OP more", y.op(0, 28, 0, 0), Check.FULL);
        for (int i = 0; i < 4; i++) {
            c.due("GUARDS", y.guard(0, 0, 30, 0, 0), i);
        }
        c.due("one GUARD more", y.guard(0, 0, 30, 0, 0), Check.FULL);
    }

    private static void limitsOfARun() {
        StoryClasses y = new StoryClasses();
        int outputs = Check.routine(y, 1, Check.op(0, 5), Check.op(26), Check.op(10, 0));
        c.due("STEPS: run", y.run(outputs, 0, 0), 2);
        c.due("STEPS", y.told(3), 300);
        c.due("numbers of THE OUTPUT", y.count(3, 0), 60);
        int faults = Check.routine(y, 1, Check.op(22));
        y.guard(faults, 0, 1, 0, 0);
        c.due("FAULTS: run", y.run(faults, 0, 0), 2);
        c.due("FAULTS", y.told(4), 25);
        c.due("FAULTS that were taken", y.told(5), 24);
        int calls = Check.routine(y, 1, Check.op(19, 2, 0));
        c.due("ROUTINES open: run", y.run(calls, 0, 0), 1);
        c.due("ROUTINES open: code", y.told(0), Check.DEEP);
        c.due("ROUTINES open", y.told(7), 12);
        c.fails("PILE", y, Check.routine(y, 1, Check.onPile(9)), 0, 0, Check.PILE, 8);
    }

    private static void limitsOfKeeping() {
        StoryClasses y = new StoryClasses();
        int keeps = Check.routine(y, 1, Check.op(27), Check.op(26), Check.op(10, 0));
        c.fails("KEPT", y, keeps, 0, 0, Check.ARGUMENT, 0);
        c.due("KEPT", y.count(2, 0), 3);
        y.forget();
        int turns = Check.routine(y, 1, Check.op(27), Check.op(26), Check.op(28), Check.op(26), Check.op(10, 0));
        c.fails("KEEPINGS", y, turns, 0, 0, Check.ARGUMENT, 0);
        c.due("KEEPINGS", y.count(3, 0), 12);
    }
}
