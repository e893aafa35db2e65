import java.util.ArrayList;
import java.util.Collection;
import java.util.HashSet;
import java.util.List;
import java.util.Set;
import java.util.StringJoiner;
import java.util.TreeMap;

/** The document's words once more over the library's maps, to hold the class against. */
final class Model {
    private static final int NONE = -1;
    private static final int REFUSED = -9;

    private static final class Walk {
        private final int kind;
        private final int steps;
        private int done;

        Walk(int kind, int steps) {
            this.kind = kind;
            this.steps = steps;
        }
    }

    private static final class Table {
        private TreeMap<Integer, Integer> map = new TreeMap<>();
        private Walk walk;
        private Integer view;

        List<Integer> numbers(int kind) {
            List<Integer> numbers = new ArrayList<>();
            map.forEach((name, worth) -> numbers.add(kind == 0 ? name : kind == 1 ? worth : Integer.valueOf(name * worth)));
            return numbers;
        }

        int total(int kind) {
            return numbers(kind).stream().mapToInt(Integer::intValue).sum();
        }

        Set<Object> shown(int kind) {
            Collection<?> all = kind == 0 ? map.keySet() : kind == 1 ? map.values() : map.entrySet();
            return new HashSet<>(all);
        }
    }

    private final List<Table> tables = List.of(new Table(), new Table(), new Table(), new Table());
    private int knocks;

    private Table of(int table) {
        if (table < 0 || table > 3) {
            throw new IndexOutOfBoundsException();
        }
        return tables.get(table);
    }

    private static void let(int number, int least, int most) {
        if (number < least || number > most) {
            throw new IllegalArgumentException();
        }
    }

    private TreeMap<Integer, Integer> told(Table t) {
        t.walk = null;
        return t.map;
    }

    /** What a name comes to as its worth becomes a number: outside 0 to 99 its pair goes. */
    private static int become(TreeMap<Integer, Integer> map, int name, int number) {
        if (number < 0 || number > 99) {
            map.remove(name);
            return NONE;
        }
        map.put(name, number);
        return number;
    }

    private static int orNone(Integer worth) {
        return worth == null ? NONE : worth;
    }

    int put(int table, int name, int worth) {
        Table t = of(table);
        let(name, 0, 63);
        let(worth, 0, 99);
        return orNone(told(t).put(name, worth));
    }

    int putNew(int table, int name, int worth) {
        Table t = of(table);
        let(name, 0, 63);
        let(worth, 0, 99);
        return orNone(told(t).putIfAbsent(name, worth));
    }

    int remove(int table, int name) {
        Table t = of(table);
        let(name, 0, 63);
        return orNone(told(t).remove(name));
    }

    boolean removePair(int table, int name, int worth) {
        Table t = of(table);
        let(name, 0, 63);
        let(worth, 0, 99);
        return told(t).remove(name, (Object) worth);
    }

    int change(int table, int name, int worth) {
        Table t = of(table);
        let(name, 0, 63);
        let(worth, 0, 99);
        return orNone(told(t).replace(name, worth));
    }

    boolean changeFrom(int table, int name, int worth, int then) {
        Table t = of(table);
        let(name, 0, 63);
        let(worth, 0, 99);
        let(then, 0, 99);
        return told(t).replace(name, worth, then);
    }

    int make(int table, int name, int by) {
        Table t = of(table);
        let(name, 0, 63);
        let(by, -99, 99);
        Integer there = told(t).get(name);
        return there != null ? there : become(t.map, name, name + by);
    }

    int grow(int table, int name, int by) {
        Table t = of(table);
        let(name, 0, 63);
        let(by, -99, 99);
        Integer there = told(t).get(name);
        return there == null ? NONE : become(t.map, name, there + by);
    }

    int turn(int table, int name, int by) {
        Table t = of(table);
        let(name, 0, 63);
        let(by, -99, 99);
        return become(told(t), name, t.map.getOrDefault(name, 0) + by);
    }

    int join(int table, int name, int worth, int rule) {
        Table t = of(table);
        let(name, 0, 63);
        let(worth, 0, 99);
        let(rule, 0, 3);
        return orNone(told(t).merge(name, worth, (a, b) -> switch (rule) {
            case 0 -> (a + b) % 100;
            case 1 -> Math.max(a, b);
            case 2 -> Math.min(a, b);
            default -> null;
        }));
    }

    int changeAll(int table, int times, int plus) {
        Table t = of(table);
        let(times, 0, 9);
        let(plus, 0, 9);
        told(t).replaceAll((name, worth) -> (times * worth + plus * name) % 100);
        return t.total(1);
    }

    int raise(int table, int by) {
        Table t = of(table);
        let(by, 0, 99);
        told(t).replaceAll((name, worth) -> (worth + by) % 100);
        return t.map.size();
    }

    int clear(int table, int what) {
        Table t = of(table);
        let(what, 0, 3);
        int before = told(t).size();
        t.map.clear();
        return before;
    }

    int copy(int table, int other) {
        Table t = of(table);
        Table from = of(other);
        let(table == other ? 1 : 0, 0, 0);
        told(t);
        t.view = null;
        t.map = new TreeMap<>(from.map);
        return t.map.size();
    }

    int renew(int table, int room) {
        Table t = of(table);
        let(room, Integer.MIN_VALUE, 64);
        if (room < 0) {
            return REFUSED;
        }
        int before = told(t).size();
        t.view = null;
        t.map = new TreeMap<>();
        return before;
    }

    int putAll(int table, int other) {
        Table t = of(table);
        Table from = of(other);
        let(table == other ? 1 : 0, 0, 0);
        told(t).putAll(from.map);
        return t.map.size();
    }

    boolean takeName(int table, int name) {
        return remove(table, name) != NONE;
    }

    int takeWorth(int table, int worth) {
        Table t = of(table);
        let(worth, 0, 99);
        return count(table, worth) > 1 ? REFUSED : takeWorths(table, worth);
    }

    int takeWorths(int table, int worth) {
        Table t = of(table);
        let(worth, 0, 99);
        int before = told(t).size();
        t.map.values().removeIf(there -> there == worth);
        return before - t.map.size();
    }

    int takeOf(int table, int other, int what) {
        return sort(table, other, what, true);
    }

    int keepOf(int table, int other, int what) {
        return sort(table, other, what, false);
    }

    private int sort(int table, int other, int what, boolean isTaken) {
        Table t = of(table);
        Table held = of(other);
        let(table == other ? 1 : 0, 0, 0);
        let(what, 0, 2);
        int before = told(t).size();
        Set<Object> shown = held.shown(what);
        t.map.entrySet().removeIf(pair -> isTaken == shown.contains(
                what == 0 ? pair.getKey() : what == 1 ? pair.getValue() : pair));
        return before - t.map.size();
    }

    int sift(int table, int by, int what) {
        Table t = of(table);
        let(by, 1, 99);
        let(what, 0, 2);
        int before = told(t).size();
        t.map.entrySet().removeIf(pair -> (what == 0 ? pair.getKey() : what == 1 ? pair.getValue()
                : pair.getKey() + pair.getValue()) % by == 0);
        return before - t.map.size();
    }

    int get(int table, int name) {
        Table t = of(table);
        let(name, 0, 63);
        return orNone(t.map.get(name));
    }

    int getOr(int table, int name, int worth) {
        Table t = of(table);
        let(name, 0, 63);
        let(worth, 0, 99);
        return t.map.getOrDefault(name, worth);
    }

    boolean has(int table, int name, int what) {
        Table t = of(table);
        let(name, 0, 63);
        let(what, 0, 1);
        return t.map.containsKey(name);
    }

    boolean hasWorth(int table, int worth, int what) {
        Table t = of(table);
        let(worth, 0, 99);
        let(what, 0, 2);
        return t.map.containsValue(worth);
    }

    boolean within(int table, int other, int what) {
        Table t = of(table);
        Table held = of(other);
        let(what, 0, 2);
        return t.shown(what).containsAll(held.shown(what));
    }

    int size(int table) {
        return of(table).map.size();
    }

    boolean isEmpty(int table) {
        return of(table).map.isEmpty();
    }

    int sum(int table, int what) {
        Table t = of(table);
        let(what, 0, 5);
        return t.total(what > 3 ? 2 : what % 2);
    }

    boolean isSame(int table, int other) {
        return of(table).map.equals(of(other).map);
    }

    String text(int table) {
        StringJoiner text = new StringJoiner(" ");
        of(table).map.forEach((name, worth) -> text.add(name + "=" + worth));
        return text.toString();
    }

    int code(int table) {
        return of(table).map.entrySet().stream().mapToInt(pair -> (pair.getKey() % 5) ^ pair.getValue()).sum();
    }

    int width(int table) {
        return of(table).map.toString().length();
    }

    int count(int table, int worth) {
        Table t = of(table);
        let(worth, 0, 99);
        return (int) t.map.values().stream().filter(there -> there == worth).count();
    }

    int extreme(int table, boolean isLeast, boolean isWorth) {
        List<Integer> numbers = of(table).numbers(isWorth ? 1 : 0);
        numbers.sort(null);
        return numbers.isEmpty() ? REFUSED : numbers.get(isLeast ? 0 : numbers.size() - 1);
    }

    int book(int table, int what, int name, int worth) {
        of(table);
        let(what, 0, 6);
        let(name, 0, 63);
        let(worth, 0, 99);
        return switch (what) {
            case 0 -> size(table);
            case 1 -> isEmpty(table) ? 1 : 0;
            case 2 -> get(table, name);
            case 3 -> put(table, name, worth);
            case 4 -> remove(table, name);
            case 5 -> sum(table, 0);
            default -> sum(table, 1);
        };
    }

    int nothing(int table, int what) {
        of(table);
        let(what, 0, 7);
        return REFUSED;
    }

    int walk(int table, int kind) {
        Table t = of(table);
        let(kind, 0, 4);
        t.walk = new Walk(kind == 3 ? 0 : kind == 4 ? 1 : kind, t.map.size());
        return t.walk.steps;
    }

    int step(int table) {
        Walk walk = of(table).walk;
        if (walk == null) {
            throw new IllegalStateException();
        }
        return walk.done < walk.steps ? ++walk.done : REFUSED;
    }

    int hasStep(int table) {
        Walk walk = of(table).walk;
        return walk == null ? NONE : walk.done < walk.steps ? 1 : 0;
    }

    int walked(int table) {
        return hasStep(table) == 0 ? of(table).total(of(table).walk.kind) : NONE;
    }

    int hold(int table, int kind) {
        Table t = of(table);
        let(kind, 0, 1);
        t.view = kind;
        return t.map.size();
    }

    int viewSize(int table) {
        return of(table).view == null ? NONE : of(table).map.size();
    }

    private Table viewed(int table, int number) {
        Table t = of(table);
        let(number, 0, 99);
        if (t.view == null) {
            throw new IllegalStateException();
        }
        return t;
    }

    boolean viewHas(int table, int number) {
        Table t = viewed(table, number);
        return t.shown(t.view).contains(number);
    }

    int viewTake(int table, int number) {
        Table t = viewed(table, number);
        return t.view == 1 ? takeWorth(table, number) : told(t).remove(number) == null ? 0 : 1;
    }

    int viewSum(int table) {
        return viewed(table, 0).total(of(table).view);
    }

    int house(int what) {
        let(what, 0, 4);
        int sum = 0;
        for (Table t : tables) {
            sum += switch (what) {
                case 0 -> t.map.size();
                case 1 -> t.map.isEmpty() ? 1 : 0;
                case 2 -> t.walk == null ? 0 : 1;
                case 3 -> t.view == null ? 0 : 1;
                default -> 0;
            };
        }
        return what == 4 ? knocks : sum;
    }

    int knock() {
        return ++knocks;
    }

    boolean isSound() {
        return true;
    }

    long digest() {
        List<Integer> all = new ArrayList<>();
        for (int what = 0; what < 5; what++) {
            all.add(house(what));
        }
        for (int i = 0; i < 4; i++) {
            all.add(size(i));
            text(i).chars().forEach(all::add);
            all.addAll(List.of(code(i), width(i)));
            for (int what = 0; what < 6; what++) {
                all.add(sum(i, what));
            }
            all.addAll(List.of(extreme(i, true, false), extreme(i, false, false),
                    extreme(i, true, true), extreme(i, false, true)));
            all.addAll(List.of(hasStep(i), walked(i), viewSize(i)));
        }
        for (int i = 0; i < 4; i++) {
            for (int j = 0; j < 4; j++) {
                all.add(isSame(i, j) ? 1 : 0);
                for (int what = 0; what < 3; what++) {
                    all.add(within(i, j, what) ? 1 : 0);
                }
            }
        }
        all.add(isSound() ? 1 : 0);
        long d = 7702;
        for (int v : all) {
            d = d * 31 + v;
        }
        return d;
    }
}
