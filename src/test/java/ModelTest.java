import java.lang.reflect.Method;
import java.util.Arrays;
import java.util.Comparator;
import java.util.List;

/** Long runs of calls, drawn by a fixed rule, on the class and on the model of the document. */
public final class ModelTest {
    private static final int RUNS = 1200;
    // With the filling and the digests they stay under the 512 calls that an object is promised for.
    private static final int CALLS = 380;
    private static final int CALLS_TO_DIGEST = 8;
    private static final int[] STRANGE = {Integer.MIN_VALUE, Integer.MAX_VALUE, -100, -2, -1, 4, 5, 6, 8, 10, 63, 64, 65, 99, 100};

    private static final List<Method> FACE = Arrays.stream(Hashladder.class.getMethods())
            .filter(m -> m.getDeclaringClass() == Hashladder.class)
            .sorted(Comparator.comparing(Method::getName))
            .toList();
    private static final Method PUT = Calls.methodOf(Hashladder.class, "put");
    private static final Method STEP = Calls.methodOf(Hashladder.class, "step");

    private long seed;
    private int wrong;

    public static void main(String[] args) {
        ModelTest test = new ModelTest();
        for (int run = 0; run < RUNS && test.wrong < 10; run++) {
            test.seed = run * 7919L + 17;
            test.makeRun(run);
        }
        System.out.println(RUNS + " runs of " + CALLS + " calls, " + test.wrong + " wrong");
        System.exit(test.wrong == 0 ? 0 : 1);
    }

    private void makeRun(int run) {
        Hashladder x = new Hashladder();
        Model model = new Model();
        // Some runs stay among few names and worths, so that pairs meet; others fill the tables.
        int names = run % 3 == 0 ? 6 : run % 3 == 1 ? 20 : 64;
        int worths = run % 2 == 0 ? 8 : 100;
        if (run % 5 == 4) {
            fill(x, model, worths);
        }
        for (int call = 0; call < CALLS; call++) {
            Method method = draw(4) == 0 ? PUT : draw(6) == 0 ? STEP : FACE.get(draw(FACE.size()));
            Object[] given = given(method, names, worths);
            String got = Calls.answer(x, method.getName(), given);
            String due = Calls.answer(model, method.getName(), given);
            if (!got.equals(due)) {
                tell(run, call, method.getName() + Arrays.toString(given) + " answered " + got + ", due is " + due);
                return;
            }
            if (call % CALLS_TO_DIGEST == CALLS_TO_DIGEST - 1 && x.digest() != model.digest()) {
                tell(run, call, "after " + method.getName() + Arrays.toString(given) + " the digests differ");
                return;
            }
        }
    }

    /** Runs that begin with full tables, which calls drawn one by one hardly come to. */
    private void fill(Hashladder x, Model model, int worths) {
        for (int name = 0; name < 64; name++) {
            int worth = draw(worths);
            x.put(0, name, worth);
            model.put(0, name, worth);
        }
        for (int table = 1; table < 4; table++) {
            x.copy(table, 0);
            model.copy(table, 0);
        }
    }

    private Object[] given(Method method, int names, int worths) {
        Class<?>[] types = method.getParameterTypes();
        Object[] given = new Object[types.length];
        for (int i = 0; i < given.length; i++) {
            int drawn = i == 0 && types.length > 1 || types.length == 1 ? draw(4)
                    : i == 1 ? draw(draw(2) == 0 ? 4 : names)
                    : draw(draw(2) == 0 ? 3 : worths) - (isBy(method.getName()) ? draw(99) : 0);
            int number = draw(25) == 0 ? STRANGE[draw(STRANGE.length)] : drawn;
            given[i] = types[i] == boolean.class ? (Object) (draw(2) == 0) : (Object) number;
        }
        return given;
    }

    private static boolean isBy(String name) {
        return name.equals("make") || name.equals("grow") || name.equals("turn");
    }

    private int draw(int below) {
        seed = seed * 6364136223846793005L + 1442695040888963407L;
        return (int) ((seed >>> 33) % below);
    }

    private void tell(int run, int call, String words) {
        wrong++;
        System.out.println("run " + run + ", call " + call + ": " + words);
    }
}
