import java.io.IOException;
import java.lang.reflect.Method;
import java.nio.file.Files;
import java.nio.file.Path;
import java.util.ArrayList;
import java.util.List;
import java.util.Map;
import java.util.Set;
import java.util.TreeMap;
import java.util.TreeSet;
import java.util.regex.Matcher;
import java.util.regex.Pattern;
import java.util.stream.Stream;

/** README.md: its lines of code answer what they say, and it tells every call and every test that there is. */
public final class ReadmeTest {
    private static final Path README = Path.of("README.md");
    private static final Path TESTS = Path.of("src/test/java");
    private static final String NEW_OBJECT = "EvenGranary realm = new EvenGranary();";
    private static final Pattern CALL = Pattern.compile("realm\\.(\\w+)\\(([^)]*)\\);\\s*// (-?\\d+|true|false)(: .*)?");
    private static final Pattern ROW = Pattern.compile("\\| `(\\w+)\\(([^)]*)\\)` \\| (\\d+) \\| [^|]+ \\| ([^|]*) \\|");

    public static void main(String[] args) throws IOException, ReflectiveOperationException {
        Due due = new Due("ReadmeTest");
        List<String> lines = Files.readAllLines(README);
        Set<String> shown = examples(due, lines);
        for (String name : face().keySet()) {
            due.is("an example calls " + name, true, shown.contains(name));
        }
        table(due, lines);
        tests(due, String.join("\n", lines));
        due.end();
    }

    private static Map<String, Method> face() {
        Map<String, Method> face = new TreeMap<>();
        for (Method m : EvenGranary.class.getMethods()) {
            if (m.getDeclaringClass() == EvenGranary.class) {
                face.put(m.getName(), m);
            }
        }
        return face;
    }

    /** Runs the lines of code, and answers the names of the calls in them. */
    private static Set<String> examples(Due due, List<String> lines) throws ReflectiveOperationException {
        Set<String> shown = new TreeSet<>();
        EvenGranary realm = new EvenGranary();
        boolean isCode = false;
        for (String line : lines) {
            if (line.startsWith("```")) {
                isCode = line.equals("```java");
            } else if (isCode && line.equals(NEW_OBJECT)) {
                realm = new EvenGranary();
            } else if (isCode) {
                Matcher call = CALL.matcher(line);
                boolean isCall = call.matches() && face().containsKey(call.group(1));
                due.is("a call with its answer: " + line, true, isCall);
                if (isCall) {
                    shown.add(call.group(1));
                    due.is(line, number(call.group(3)), answer(realm, face().get(call.group(1)), call.group(2)));
                }
            }
        }
        return shown;
    }

    private static long answer(EvenGranary realm, Method method, String list) throws ReflectiveOperationException {
        List<Object> arguments = new ArrayList<>();
        for (String word : list.split(", ")) {
            boolean isLong = method.getParameterTypes()[arguments.size()] == long.class;
            long n = word.startsWith("'") ? word.charAt(1) : Long.decode(word);
            if (isLong) {
                arguments.add(n);
            } else {
                arguments.add((int) n);
            }
        }
        return number(String.valueOf(method.invoke(realm, arguments.toArray())));
    }

    private static long number(String answer) {
        return answer.equals("true") ? 1 : answer.equals("false") ? 0 : Long.parseLong(answer);
    }

    /** A row for each promise, in order, that tells how many arguments the call has and what it answers if refused. */
    private static void table(Due due, List<String> lines) {
        int promise = 0;
        Set<String> told = new TreeSet<>();
        for (String line : lines) {
            Matcher row = ROW.matcher(line);
            if (row.matches()) {
                promise++;
                due.is("promise of " + row.group(1), promise, Integer.parseInt(row.group(3)));
                Method method = face().get(row.group(1));
                if (method == null) {
                    due.is("the first row is the constructor", true, row.group(1).equals("EvenGranary") && promise == 1);
                } else {
                    told.add(row.group(1));
                    due.is("arguments of " + row.group(1), method.getParameterCount(), row.group(2).split(", ").length);
                    String refused = method.getReturnType() == boolean.class ? "`false`: " : "`NONE`: ";
                    due.is("refused " + row.group(1), true, row.group(4).startsWith(refused));
                }
            }
        }
        due.is("rows", 19, promise);
        due.is("every call has a row", true, told.equals(face().keySet()));
    }

    private static void tests(Due due, String readme) throws IOException {
        due.is("how all tests are run", true, readme.contains("\n    .ci/run\n"));
        try (Stream<Path> files = Files.list(TESTS)) {
            for (Path file : (Iterable<Path>) files.sorted()::iterator) {
                String name = file.getFileName().toString().replace(".java", "");
                due.is("names " + name, true, readme.contains("`" + name + "`"));
            }
        }
    }
}
