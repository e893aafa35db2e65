import java.io.IOException;
import java.lang.reflect.InvocationTargetException;
import java.lang.reflect.Method;
import java.nio.file.Files;
import java.nio.file.Path;
import java.util.ArrayList;
import java.util.HashSet;
import java.util.List;
import java.util.Set;
import java.util.TreeSet;
import java.util.stream.Stream;

/**
 * Makes the runs of calls under src/test/runs. A line "# 2 put: words" begins a run on a new object,
 * which shows promise 2 and so has to call put; the lines behind it are a call with the answer that
 * is due each, as in: remove(0, 5) throws.IndexOutOfBoundsException
 */
public final class RunsTest {
    private static final Path RUNS = Path.of("src/test/runs");
    private static final int PROMISES = 52;
    private static final Set<String> ASKING = Set.of(
            "get", "getOr", "has", "hasWorth", "within", "size", "isEmpty", "sum", "isSame", "text",
            "code", "width", "count", "extreme", "nothing", "hasStep", "walked", "viewSize",
            "viewHas", "viewSum", "house", "isSound", "digest");

    private int wrong;
    private int calls;
    private final Set<Integer> shown = new TreeSet<>();
    private final Set<String> called = new HashSet<>();
    private String run = "";
    private String ofPromise = "";
    private Hashladder x = new Hashladder();

    public static void main(String[] args) throws Exception {
        RunsTest test = new RunsTest();
        for (Path file : filesOfRuns()) {
            for (String line : Files.readAllLines(file)) {
                test.read(line.strip());
            }
        }
        test.endRun();
        test.needEachPromise();
        System.out.println(test.calls + " calls, " + test.wrong + " wrong");
        System.exit(test.wrong == 0 ? 0 : 1);
    }

    private static List<Path> filesOfRuns() throws IOException {
        try (Stream<Path> files = Files.list(RUNS)) {
            return files.filter(f -> f.toString().endsWith(".txt")).sorted().toList();
        }
    }

    private void read(String line) throws ReflectiveOperationException {
        if (line.startsWith("#")) {
            endRun();
            beginRun(line);
        } else if (!line.isEmpty()) {
            int end = line.indexOf(") ");
            call(line.substring(0, end + 1), line.substring(end + 2).strip());
        }
    }

    private void beginRun(String line) {
        String[] words = line.substring(1, line.indexOf(':')).strip().split(" ");
        run = line;
        ofPromise = words[1];
        shown.add(Integer.valueOf(words[0]));
        called.clear();
        x = new Hashladder();
    }

    private void endRun() {
        // The constructor is promised first, and each run calls it.
        if (!ofPromise.isEmpty() && !ofPromise.equals("Hashladder") && !called.contains(ofPromise)) {
            tell("does not call " + ofPromise);
        }
    }

    private void needEachPromise() {
        for (int promise = 1; promise <= PROMISES; promise++) {
            if (!shown.contains(promise)) {
                tell("no run shows promise " + promise);
            }
        }
    }

    private void call(String call, String due) throws ReflectiveOperationException {
        calls++;
        String name = call.substring(0, call.indexOf('('));
        called.add(name);
        long before = x.digest();
        String got = answerOf(name, call.substring(call.indexOf('(') + 1, call.length() - 1));
        if (!got.equals(due)) {
            tell(call + " answered " + got + ", due is " + due);
        }
        boolean mayChange = !ASKING.contains(name) && !got.equals("-9") && !got.startsWith("throws.");
        if (!mayChange && x.digest() != before) {
            tell(call + " answered " + got + " but changed what is told");
        }
    }

    private String answerOf(String name, String inside) throws ReflectiveOperationException {
        Method method = methodOf(name);
        Class<?>[] types = method.getParameterTypes();
        String[] words = inside.isEmpty() ? new String[0] : inside.split(", *");
        List<Object> given = new ArrayList<>();
        for (int i = 0; i < words.length; i++) {
            given.add(types[i] == boolean.class ? (Object) Boolean.valueOf(words[i])
                    : (Object) Integer.valueOf(words[i]));
        }
        try {
            Object answer = method.invoke(x, given.toArray());
            return answer instanceof String ? "\"" + answer + "\"" : String.valueOf(answer);
        } catch (InvocationTargetException e) {
            return "throws." + e.getCause().getClass().getSimpleName();
        }
    }

    private static Method methodOf(String name) {
        for (Method method : Hashladder.class.getDeclaredMethods()) {
            if (method.getName().equals(name)) {
                return method;
            }
        }
        throw new IllegalArgumentException("no method " + name);
    }

    private void tell(String words) {
        wrong++;
        System.out.println(run + ": " + words);
    }
}
