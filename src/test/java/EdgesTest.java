import java.util.ArrayList;
import java.util.List;

/**
 * Every method with the last number that is let and the first that is not, on both sides, of each
 * argument, all together, on tables in several states. What has to throw is told by the bounds here,
 * what has to be answered by the model; what throws or tells -9 may leave nothing other than it was.
 */
public final class EdgesTest {
    private static final String NAME = "0..63";
    private static final String WORTH = "0..99";
    private static final String BY = "-99..99";
    private static final String FLAG = "flag";
    // A number that is a table: other may be the same as the first one, two may not.
    private static final String TABLE = "table";
    private static final String OTHER = "other";
    private static final String TWO = "two";
    // What has to be there, told behind the arguments.
    private static final String WALK = "walk";
    private static final String VIEW = "view";

    private static final String[][] FACE = {
        {"put", TABLE, NAME, WORTH},
        {"putNew", TABLE, NAME, WORTH},
        {"remove", TABLE, NAME},
        {"removePair", TABLE, NAME, WORTH},
        {"change", TABLE, NAME, WORTH},
        {"changeFrom", TABLE, NAME, WORTH, WORTH},
        {"make", TABLE, NAME, BY},
        {"grow", TABLE, NAME, BY},
        {"turn", TABLE, NAME, BY},
        {"join", TABLE, NAME, WORTH, "0..3"},
        {"changeAll", TABLE, "0..9", "0..9"},
        {"raise", TABLE, "0..99"},
        {"clear", TABLE, "0..3"},
        {"copy", TABLE, TWO},
        {"renew", TABLE, "-2147483648..64"},
        {"putAll", TABLE, TWO},
        {"takeName", TABLE, NAME},
        {"takeWorth", TABLE, WORTH},
        {"takeWorths", TABLE, WORTH},
        {"takeOf", TABLE, TWO, "0..2"},
        {"keepOf", TABLE, TWO, "0..2"},
        {"sift", TABLE, "1..99", "0..2"},
        {"get", TABLE, NAME},
        {"getOr", TABLE, NAME, WORTH},
        {"has", TABLE, NAME, "0..1"},
        {"hasWorth", TABLE, WORTH, "0..2"},
        {"within", TABLE, OTHER, "0..2"},
        {"size", TABLE},
        {"isEmpty", TABLE},
        {"sum", TABLE, "0..5"},
        {"isSame", TABLE, OTHER},
        {"text", TABLE},
        {"code", TABLE},
        {"width", TABLE},
        {"count", TABLE, WORTH},
        {"extreme", TABLE, FLAG, FLAG},
        {"book", TABLE, "0..6", NAME, WORTH},
        {"nothing", TABLE, "0..7"},
        {"walk", TABLE, "0..4"},
        {"step", TABLE, WALK},
        {"hasStep", TABLE},
        {"walked", TABLE},
        {"hold", TABLE, "0..1"},
        {"viewSize", TABLE},
        {"viewHas", TABLE, WORTH, VIEW},
        {"viewTake", TABLE, WORTH, VIEW},
        {"viewSum", TABLE, VIEW},
        {"house", "0..4"},
        {"knock"},
        {"isSound"},
        {"digest"},
    };

    private static final int STATES = 5;

    private int wrong;
    private int made;

    public static void main(String[] args) {
        EdgesTest test = new EdgesTest();
        for (int state = 0; state < STATES; state++) {
            List<String> before = Probe.of(inState(new Model(), state));
            for (String[] method : FACE) {
                test.makeAll(method, state, before);
            }
        }
        test.needWholeFace();
        System.out.println(test.made + " calls, " + test.wrong + " wrong");
        System.exit(test.wrong == 0 ? 0 : 1);
    }

    private void needWholeFace() {
        // The constructor is called for each call.
        if (FACE.length + 1 != 52) {
            tell("not each method has its edges");
        }
    }

    // ---- states

    private static Object inState(Object x, int state) {
        switch (state) {
            case 1 -> makeFewPairs(x);
            case 2 -> makeFullTables(x);
            case 3 -> makeEmptyWithWalksAndViews(x);
            case 4 -> makeSharedWorths(x);
            default -> { }
        }
        return x;
    }

    private static void makeFewPairs(Object x) {
        Calls.answer(x, "put", 0, 0, 0);
        Calls.answer(x, "put", 0, 1, 98);
        Calls.answer(x, "put", 0, 63, 99);
        Calls.answer(x, "put", 3, 63, 99);
        Calls.answer(x, "put", 3, 0, 99);
        Calls.answer(x, "hold", 0, 0);
        Calls.answer(x, "hold", 3, 1);
        Calls.answer(x, "walk", 0, 1);
        Calls.answer(x, "step", 0);
        Calls.answer(x, "walk", 3, 2);
    }

    private static void makeFullTables(Object x) {
        for (int name = 0; name < 64; name++) {
            Calls.answer(x, "put", 0, name, 36 + name);
        }
        Calls.answer(x, "copy", 3, 0);
        Calls.answer(x, "copy", 1, 0);
        Calls.answer(x, "changeAll", 3, 0, 0);
        Calls.answer(x, "hold", 0, 1);
        Calls.answer(x, "hold", 3, 0);
        Calls.answer(x, "walk", 0, 2);
        for (int step = 0; step < 64; step++) {
            Calls.answer(x, "step", 0);
        }
        Calls.answer(x, "walk", 3, 4);
        Calls.answer(x, "knock");
    }

    private static void makeEmptyWithWalksAndViews(Object x) {
        for (int table = 0; table < 4; table++) {
            Calls.answer(x, "walk", table, table);
            Calls.answer(x, "hold", table, table % 2);
        }
    }

    private static void makeSharedWorths(Object x) {
        for (int table = 0; table < 4; table += 3) {
            Calls.answer(x, "put", table, 0, table == 0 ? 0 : 99);
            Calls.answer(x, "put", table, 62, table == 0 ? 99 : 0);
            Calls.answer(x, "put", table, 5, 99);
            Calls.answer(x, "put", table, 63, 0);
            Calls.answer(x, "hold", table, 1);
        }
        Calls.answer(x, "walk", 0, 0);
        for (int step = 0; step < 4; step++) {
            Calls.answer(x, "step", 0);
        }
    }

    // ---- calls

    private void makeAll(String[] method, int state, List<String> before) {
        List<List<Object>> edges = new ArrayList<>();
        for (int i = 1; i < method.length; i++) {
            if (!isNeed(method[i])) {
                edges.add(edgesOf(method[i], method.length < 5));
            }
        }
        int count = 1;
        for (List<Object> edge : edges) {
            count *= edge.size();
        }
        for (int n = 0; n < count; n++) {
            Object[] given = new Object[edges.size()];
            int rest = n;
            for (int i = 0; i < given.length; i++) {
                given[i] = edges.get(i).get(rest % edges.get(i).size());
                rest /= edges.get(i).size();
            }
            make(method, given, state, before);
        }
    }

    private static boolean isNeed(String word) {
        return word.equals(WALK) || word.equals(VIEW);
    }

    private static boolean isTable(String word) {
        return word.equals(TABLE) || word.equals(OTHER) || word.equals(TWO);
    }

    private static int leastOf(String word) {
        return isTable(word) ? 0 : Integer.parseInt(word.substring(0, word.indexOf("..")));
    }

    private static int greatestOf(String word) {
        return isTable(word) ? 3 : Integer.parseInt(word.substring(word.indexOf("..") + 2));
    }

    private static List<Object> edgesOf(String word, boolean isWithOutermost) {
        if (word.equals(FLAG)) {
            return List.of(false, true);
        }
        int least = leastOf(word);
        int greatest = greatestOf(word);
        List<Object> edges = new ArrayList<>(List.of(least, greatest, greatest + 1));
        if (least > Integer.MIN_VALUE) {
            edges.add(least - 1);
        } else {
            edges.addAll(List.of(-1, 0));
        }
        if (isWithOutermost) {
            edges.addAll(List.of(Integer.MIN_VALUE, Integer.MAX_VALUE));
        }
        return edges;
    }

    private void make(String[] method, Object[] given, int state, List<String> before) {
        made++;
        Object x = inState(new Hashladder(), state);
        Object model = inState(new Model(), state);
        String thrown = thrownOf(method, given, model);
        String got = Calls.answer(x, method[0], given);
        String due = thrown.isEmpty() ? Calls.answer(model, method[0], given) : "throws." + thrown;
        if (!got.equals(due)) {
            tell("state " + state + ": " + method[0] + List.of(given) + " answered " + got + ", due is " + due);
            return;
        }
        boolean isDone = thrown.isEmpty() && !due.equals("-9");
        List<String> then = isDone ? Probe.of(model) : before;
        if (!Probe.of(x).equals(then)) {
            tell("state " + state + ": " + method[0] + List.of(given) + " answered " + got + ", but left "
                    + Probe.of(x) + ", due is " + then);
        }
    }

    /** The exception that is named first of those that apply, or "". */
    private static String thrownOf(String[] method, Object[] given, Object model) {
        for (int i = 0; i < given.length; i++) {
            if (isTable(method[i + 1]) && isOut(method[i + 1], given[i])) {
                return "IndexOutOfBoundsException";
            }
        }
        for (int i = 0; i < given.length; i++) {
            boolean isSame = method[i + 1].equals(TWO) && given[i].equals(given[0]);
            if (isSame || isOut(method[i + 1], given[i])) {
                return "IllegalArgumentException";
            }
        }
        String need = method[method.length - 1];
        boolean isMissing = need.equals(WALK) && Calls.answer(model, "hasStep", given[0]).equals("-1")
                || need.equals(VIEW) && Calls.answer(model, "viewSize", given[0]).equals("-1");
        return isMissing ? "IllegalStateException" : "";
    }

    private static boolean isOut(String word, Object number) {
        return number instanceof Integer n && (n < leastOf(word) || n > greatestOf(word));
    }

    private void tell(String words) {
        wrong++;
        System.out.println(words);
    }
}
