import java.io.IOException;
import java.lang.reflect.Method;
import java.nio.file.Files;
import java.nio.file.Path;
import java.util.ArrayList;
import java.util.HashSet;
import java.util.List;
import java.util.Set;
import java.util.stream.Stream;

/**
 * Makes the runs of calls under src/test/runs, each on a new object. README.md tells their form. What
 * throws, tells -9 or only asks may leave nothing other than it was; and each sentence of the document
 * that a call could break has to have its run.
 */
public final class RunsTest {
    private static final Path RUNS = Path.of("src/test/runs");
    private static final int PROMISED_CALLS = 512;
    private static final Set<String> ASKING = Set.of(
            "get", "getOr", "has", "hasWorth", "within", "size", "isEmpty", "sum", "isSame", "text",
            "code", "width", "count", "extreme", "nothing", "hasStep", "walked", "viewSize",
            "viewHas", "viewSum", "house", "isSound", "digest");

    private record Call(String name, Object[] given, String due) {
        String answer(Hashladder x) {
            return Calls.answer(x, name, given);
        }

        boolean mayChange() {
            return !ASKING.contains(name) && !due.equals("-9") && !due.startsWith("throws.");
        }

        @Override
        public String toString() {
            String list = List.of(given).toString();
            return name + "(" + list.substring(1, list.length() - 1) + ")";
        }
    }

    private final Document document = new Document();
    private final Set<String> shown = new HashSet<>();
    private int wrong;
    private int allCalls;
    private int runs;

    private String heading = "";
    private String section = "";
    private String method = "";
    private final List<Call> calls = new ArrayList<>();

    private RunsTest() throws IOException {
    }

    public static void main(String[] args) throws IOException {
        RunsTest test = new RunsTest();
        for (Path file : filesOfRuns()) {
            for (String line : Files.readAllLines(file)) {
                test.read(line.strip());
            }
            test.endRun();
        }
        test.needEachSentence();
        System.out.println(test.runs + " runs, " + test.allCalls + " calls, " + test.wrong + " wrong");
        System.exit(test.wrong == 0 ? 0 : 1);
    }

    private static List<Path> filesOfRuns() throws IOException {
        try (Stream<Path> files = Files.list(RUNS)) {
            return files.filter(f -> f.toString().endsWith(".txt")).sorted().toList();
        }
    }

    // ---- reading

    private void read(String line) {
        if (line.startsWith("#")) {
            endRun();
            beginRun(line);
        } else if (line.startsWith(">")) {
            readSentence(line.substring(1).strip());
        } else if (!line.isEmpty()) {
            int end = line.indexOf(") ");
            readCalls(line.substring(0, end + 1), line.substring(end + 2).strip());
        }
    }

    private void beginRun(String line) {
        String[] words = line.substring(1, line.indexOf(':')).strip().split(" ");
        heading = line;
        section = words[0];
        method = words.length > 1 ? words[1] : "";
    }

    private void readSentence(String sentence) {
        if (!document.sentences().getOrDefault(section, List.of()).contains(sentence)) {
            tell("the document does not say there: " + sentence);
        }
        shown.add(section + " " + sentence);
    }

    /** In a line each a..b stands for the numbers from a to b, a call for each. */
    private void readCalls(String call, String due) {
        int count = Math.max(countOf(call), countOf(due));
        for (int i = 0; i < count; i++) {
            readCall(nthOf(call, i), nthOf(due, i));
        }
    }

    private static int countOf(String words) {
        int count = 1;
        for (String word : words.split("[(), ]+")) {
            String[] ends = word.split("\\.\\.");
            if (ends.length == 2) {
                count = Math.max(count, Integer.parseInt(ends[1]) - Integer.parseInt(ends[0]) + 1);
            }
        }
        return count;
    }

    private static String nthOf(String words, int n) {
        StringBuilder nth = new StringBuilder();
        for (String word : words.split("(?<=[(), ])|(?=[(), ])")) {
            String[] ends = word.split("\\.\\.");
            nth.append(ends.length == 2 ? String.valueOf(Integer.parseInt(ends[0]) + n) : word);
        }
        return nth.toString();
    }

    private void readCall(String call, String due) {
        String name = call.substring(0, call.indexOf('('));
        String inside = call.substring(call.indexOf('(') + 1, call.length() - 1);
        Method called = Calls.methodOf(Hashladder.class, name);
        Class<?>[] types = called.getParameterTypes();
        String[] words = inside.isEmpty() ? new String[0] : inside.split(", *");
        Object[] given = new Object[words.length];
        for (int i = 0; i < words.length; i++) {
            given[i] = types[i] == boolean.class ? (Object) Boolean.valueOf(words[i]) : (Object) Integer.valueOf(words[i]);
        }
        calls.add(new Call(name, given, due));
    }

    // ---- making

    private void endRun() {
        if (heading.isEmpty()) {
            return;
        }
        runs++;
        allCalls += calls.size();
        needMethod();
        if (calls.size() > PROMISED_CALLS) {
            tell("has more calls than an object is promised for");
        }
        Hashladder x = new Hashladder();
        for (int i = 0; i < calls.size(); i++) {
            Call call = calls.get(i);
            String got = call.answer(x);
            if (!got.equals(call.due())) {
                tell(call + ", call " + (i + 1) + ", answered " + got + ", due is " + call.due());
            }
            // The probe's own calls have to be promised, too.
            if (!call.mayChange() && i + 1 + Probe.CALLS <= PROMISED_CALLS) {
                needUnchanged(i);
            }
        }
        heading = "";
        calls.clear();
    }

    private void needMethod() {
        // The constructor is promised first, and each run calls it.
        if (!method.isEmpty() && !method.equals("Hashladder") && calls.stream().noneMatch(c -> c.name().equals(method))) {
            tell("does not call " + method);
        }
    }

    private void needUnchanged(int last) {
        List<String> with = Probe.of(objectAfter(last + 1));
        List<String> without = Probe.of(objectAfter(last));
        for (int i = 0; i < with.size() && i < without.size(); i++) {
            if (!with.get(i).equals(without.get(i))) {
                tell(calls.get(last) + " made " + with.get(i) + " of " + without.get(i));
                return;
            }
        }
    }

    private Hashladder objectAfter(int count) {
        Hashladder x = new Hashladder();
        for (Call call : calls.subList(0, count)) {
            call.answer(x);
        }
        return x;
    }

    private void needEachSentence() {
        document.sentences().forEach((where, sentences) -> {
            for (String sentence : sentences) {
                if (!shown.contains(where + " " + sentence)) {
                    heading = where;
                    tell("no run shows: " + sentence);
                }
            }
        });
    }

    private void tell(String words) {
        wrong++;
        System.out.println(heading + ": " + words);
    }
}
