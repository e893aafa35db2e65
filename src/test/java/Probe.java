import java.util.ArrayList;
import java.util.List;

/**
 * Finds out all that can be told of an object: its pairs, how far each walk is and what it comes over,
 * and what each view shows. It makes calls that change the object, which is of no use behind it.
 */
final class Probe {
    /** How many calls it makes at most. */
    static final int CALLS = 4 + 1 + 4 * (1 + 65 + 1 + 1 + 1 + 1 + 1);

    private final Object object;
    private final List<String> told = new ArrayList<>();

    private Probe(Object object) {
        this.object = object;
    }

    static List<String> of(Object object) {
        Probe probe = new Probe(object);
        for (int table = 0; table < 4; table++) {
            probe.ask("text", table);
        }
        probe.ask("digest");
        for (int table = 0; table < 4; table++) {
            probe.askWalk(table);
            probe.askView(table);
        }
        return probe.told;
    }

    private String ask(String name, Object... given) {
        String answer = Calls.answer(object, name, given);
        told.add(name + List.of(given) + " " + answer);
        return answer;
    }

    private void askWalk(int table) {
        boolean goesOn = !ask("hasStep", table).equals("-1");
        for (int i = 0; goesOn && i < 65; i++) {
            goesOn = !ask("step", table).equals("-9");
        }
        ask("walked", table);
    }

    private void askView(int table) {
        ask("viewSize", table);
        ask("viewSum", table);
        // With this pair a view of the worths alone shows 99.
        ask("put", table, 63, 99);
        ask("viewHas", table, 99);
    }
}
