/**
 * Four tables of pairs of a name and a worth, in which each name stands once.
 * What each method does is promised in DOC.md, in the sequence of this file.
 */
public final class Hashladder {
    private static final int TABLES = 4;
    private static final int NAMES = 64;
    private static final int WORTHS = 100;
    private static final int NONE = -1;
    private static final int REFUSED = -9;

    private static final int BY_NAMES = 0;
    private static final int BY_WORTHS = 1;
    private static final int BY_PAIRS = 2;

    private final Table[] tables;
    private int knocks;

    // Made once and used again by each call, since all calls of a run share one room.
    private final Table spare;
    private final PairRow row;
    private final Walk probe;
    private final StringBuilder page;

    public Hashladder() {
        tables = new Table[TABLES];
        for (int i = 0; i < tables.length; i++) {
            tables[i] = new Table();
        }
        spare = new Table();
        row = new PairRow();
        probe = new Walk();
        page = new StringBuilder();
    }

    // ---- changes

    public int put(int table, int name, int worth)
            throws IndexOutOfBoundsException, IllegalArgumentException {
        Table t = tableAt(table);
        needName(name);
        needWorth(worth);
        t.tell();
        return t.lay(name, worth);
    }

    public int putNew(int table, int name, int worth)
            throws IndexOutOfBoundsException, IllegalArgumentException {
        Table t = tableAt(table);
        needName(name);
        needWorth(worth);
        t.tell();
        int there = t.worthAt(name);
        if (there == NONE) {
            t.lay(name, worth);
        }
        return there;
    }

    public int remove(int table, int name)
            throws IndexOutOfBoundsException, IllegalArgumentException {
        Table t = tableAt(table);
        needName(name);
        t.tell();
        return t.lift(name);
    }

    public boolean removePair(int table, int name, int worth)
            throws IndexOutOfBoundsException, IllegalArgumentException {
        Table t = tableAt(table);
        needName(name);
        needWorth(worth);
        t.tell();
        boolean goes = t.worthAt(name) == worth;
        if (goes) {
            t.lift(name);
        }
        return goes;
    }

    public int change(int table, int name, int worth)
            throws IndexOutOfBoundsException, IllegalArgumentException {
        Table t = tableAt(table);
        needName(name);
        needWorth(worth);
        t.tell();
        int there = t.worthAt(name);
        if (there != NONE) {
            t.lay(name, worth);
        }
        return there;
    }

    public boolean changeFrom(int table, int name, int worth, int then)
            throws IndexOutOfBoundsException, IllegalArgumentException {
        Table t = tableAt(table);
        needName(name);
        needWorth(worth);
        needWorth(then);
        t.tell();
        boolean changes = t.worthAt(name) == worth;
        if (changes) {
            t.lay(name, then);
        }
        return changes;
    }

    public int make(int table, int name, int by)
            throws IndexOutOfBoundsException, IllegalArgumentException {
        Table t = tableAt(table);
        needName(name);
        needBy(by);
        t.tell();
        int there = t.worthAt(name);
        return there == NONE ? t.settle(name, name + by) : there;
    }

    public int grow(int table, int name, int by)
            throws IndexOutOfBoundsException, IllegalArgumentException {
        Table t = tableAt(table);
        needName(name);
        needBy(by);
        t.tell();
        int there = t.worthAt(name);
        return there == NONE ? NONE : t.settle(name, there + by);
    }

    public int turn(int table, int name, int by)
            throws IndexOutOfBoundsException, IllegalArgumentException {
        Table t = tableAt(table);
        needName(name);
        needBy(by);
        t.tell();
        int there = t.worthAt(name);
        return t.settle(name, (there == NONE ? 0 : there) + by);
    }

    public int join(int table, int name, int worth, int rule)
            throws IndexOutOfBoundsException, IllegalArgumentException {
        Table t = tableAt(table);
        needName(name);
        needWorth(worth);
        needIn(rule, 0, 3);
        t.tell();
        int there = t.worthAt(name);
        return t.settle(name, there == NONE ? worth : joined(there, worth, rule));
    }

    public int changeAll(int table, int times, int plus)
            throws IndexOutOfBoundsException, IllegalArgumentException {
        Table t = tableAt(table);
        needIn(times, 0, 9);
        needIn(plus, 0, 9);
        t.tell();
        t.reckonAnew(times, plus, 0);
        return t.sumOf(BY_WORTHS);
    }

    public int raise(int table, int by)
            throws IndexOutOfBoundsException, IllegalArgumentException {
        Table t = tableAt(table);
        needIn(by, 0, 99);
        t.tell();
        t.reckonAnew(1, 0, by);
        return t.pairs();
    }

    public int clear(int table, int what)
            throws IndexOutOfBoundsException, IllegalArgumentException {
        Table t = tableAt(table);
        needIn(what, 0, 3);
        t.tell();
        return t.liftAll();
    }

    public int copy(int table, int other)
            throws IndexOutOfBoundsException, IllegalArgumentException {
        Table t = tableAt(table);
        Table from = tableAt(other);
        needTwo(table, other);
        t.becomeNew();
        t.layAll(from);
        return t.pairs();
    }

    public int renew(int table, int room)
            throws IndexOutOfBoundsException, IllegalArgumentException {
        Table t = tableAt(table);
        if (room > NAMES) {
            throw new IllegalArgumentException("more room than there are names");
        }
        return room < 0 ? REFUSED : t.becomeNew();
    }

    public int putAll(int table, int other)
            throws IndexOutOfBoundsException, IllegalArgumentException {
        Table t = tableAt(table);
        Table from = tableAt(other);
        needTwo(table, other);
        t.tell();
        t.layAll(from);
        return t.pairs();
    }

    public boolean takeName(int table, int name)
            throws IndexOutOfBoundsException, IllegalArgumentException {
        Table t = tableAt(table);
        needName(name);
        t.tell();
        return t.lift(name) != NONE;
    }

    public int takeWorth(int table, int worth)
            throws IndexOutOfBoundsException, IllegalArgumentException {
        Table t = tableAt(table);
        needWorth(worth);
        return takeOnly(t, worth);
    }

    public int takeWorths(int table, int worth)
            throws IndexOutOfBoundsException, IllegalArgumentException {
        Table t = tableAt(table);
        needWorth(worth);
        t.tell();
        return t.liftWorth(worth);
    }

    public int takeOf(int table, int other, int what)
            throws IndexOutOfBoundsException, IllegalArgumentException {
        Table t = tableAt(table);
        Table held = tableAt(other);
        needTwo(table, other);
        needIn(what, BY_NAMES, BY_PAIRS);
        t.tell();
        return t.liftHeld(held, what, true);
    }

    public int keepOf(int table, int other, int what)
            throws IndexOutOfBoundsException, IllegalArgumentException {
        Table t = tableAt(table);
        Table held = tableAt(other);
        needTwo(table, other);
        needIn(what, BY_NAMES, BY_PAIRS);
        t.tell();
        return t.liftHeld(held, what, false);
    }

    public int sift(int table, int by, int what)
            throws IndexOutOfBoundsException, IllegalArgumentException {
        Table t = tableAt(table);
        needIn(by, 1, 99);
        needIn(what, 0, 2);
        t.tell();
        return t.liftMultiples(by, what);
    }

    // ---- what is asked

    public int get(int table, int name)
            throws IndexOutOfBoundsException, IllegalArgumentException {
        Table t = tableAt(table);
        needName(name);
        return t.worthAt(name);
    }

    public int getOr(int table, int name, int worth)
            throws IndexOutOfBoundsException, IllegalArgumentException {
        Table t = tableAt(table);
        needName(name);
        needWorth(worth);
        int there = t.worthAt(name);
        return there == NONE ? worth : there;
    }

    public boolean has(int table, int name, int what)
            throws IndexOutOfBoundsException, IllegalArgumentException {
        Table t = tableAt(table);
        needName(name);
        needIn(what, 0, 1);
        return t.worthAt(name) != NONE;
    }

    public boolean hasWorth(int table, int worth, int what)
            throws IndexOutOfBoundsException, IllegalArgumentException {
        Table t = tableAt(table);
        needWorth(worth);
        needIn(what, 0, 2);
        return t.timesOf(worth) > 0;
    }

    public boolean within(int table, int other, int what)
            throws IndexOutOfBoundsException, IllegalArgumentException {
        Table t = tableAt(table);
        Table held = tableAt(other);
        needIn(what, BY_NAMES, BY_PAIRS);
        return t.holdsAll(held, what);
    }

    public int size(int table) throws IndexOutOfBoundsException {
        return tableAt(table).pairs();
    }

    public boolean isEmpty(int table) throws IndexOutOfBoundsException {
        return tableAt(table).pairs() == 0;
    }

    public int sum(int table, int what)
            throws IndexOutOfBoundsException, IllegalArgumentException {
        Table t = tableAt(table);
        needIn(what, 0, 5);
        switch (what) {
            case 0:
                return t.sumOf(BY_NAMES);
            case 1:
                return t.sumOf(BY_WORTHS);
            case 2:
                return sumByWalk(t, BY_NAMES);
            case 3:
                return sumByWalk(t, BY_WORTHS);
            case 4:
                return t.sumOf(BY_PAIRS);
            default:
                return sumByWalk(t, BY_PAIRS);
        }
    }

    public boolean isSame(int table, int other) throws IndexOutOfBoundsException {
        Table t = tableAt(table);
        return t.isLike(tableAt(other));
    }

    public String text(int table) throws IndexOutOfBoundsException {
        writePage(tableAt(table));
        return page.toString();
    }

    public int code(int table) throws IndexOutOfBoundsException {
        return tableAt(table).reckonCode();
    }

    public int width(int table) throws IndexOutOfBoundsException {
        return tableAt(table).reckonWidth();
    }

    public int count(int table, int worth)
            throws IndexOutOfBoundsException, IllegalArgumentException {
        Table t = tableAt(table);
        needWorth(worth);
        return t.timesOf(worth);
    }

    public int extreme(int table, boolean isLeast, boolean isWorth)
            throws IndexOutOfBoundsException {
        return tableAt(table).outermost(isLeast, isWorth ? BY_WORTHS : BY_NAMES);
    }

    // ---- books and nothings

    public int book(int table, int what, int name, int worth)
            throws IndexOutOfBoundsException, IllegalArgumentException {
        Table t = tableAt(table);
        needIn(what, 0, 6);
        needName(name);
        needWorth(worth);
        switch (what) {
            case 0:
                return t.pairs();
            case 1:
                return t.pairs() == 0 ? 1 : 0;
            case 2:
                return t.worthAt(name);
            case 3:
                t.tell();
                return t.lay(name, worth);
            case 4:
                t.tell();
                return t.lift(name);
            case 5:
                return t.sumOf(BY_NAMES);
            default:
                return t.sumOf(BY_WORTHS);
        }
    }

    public int nothing(int table, int what)
            throws IndexOutOfBoundsException, IllegalArgumentException {
        tableAt(table);
        needIn(what, 0, 7);
        return REFUSED;
    }

    // ---- walks

    public int walk(int table, int kind)
            throws IndexOutOfBoundsException, IllegalArgumentException {
        Table t = tableAt(table);
        needIn(kind, 0, 4);
        // 3 and 4 come over the same as 0 and 1, and no sequence is told of any.
        t.walk.begin(kind % 3);
        return t.pairs();
    }

    public int step(int table) throws IndexOutOfBoundsException, IllegalStateException {
        Table t = tableAt(table);
        if (!t.walk.isThere()) {
            throw new IllegalStateException("no walk");
        }
        return t.walk.goOn(t) ? t.walk.done() : REFUSED;
    }

    public int hasStep(int table) throws IndexOutOfBoundsException {
        Table t = tableAt(table);
        if (!t.walk.isThere()) {
            return NONE;
        }
        return t.walk.done() < t.pairs() ? 1 : 0;
    }

    public int walked(int table) throws IndexOutOfBoundsException {
        Table t = tableAt(table);
        return hasStep(table) == 0 ? t.walk.total() : NONE;
    }

    // ---- views

    public int hold(int table, int kind)
            throws IndexOutOfBoundsException, IllegalArgumentException {
        Table t = tableAt(table);
        needIn(kind, BY_NAMES, BY_WORTHS);
        t.view = kind;
        return t.pairs();
    }

    public int viewSize(int table) throws IndexOutOfBoundsException {
        Table t = tableAt(table);
        return t.view == NONE ? NONE : t.pairs();
    }

    public boolean viewHas(int table, int number)
            throws IndexOutOfBoundsException, IllegalArgumentException, IllegalStateException {
        Table t = tableAt(table);
        needWorth(number);
        needView(t);
        return t.view == BY_NAMES ? t.worthAt(number) != NONE : t.timesOf(number) > 0;
    }

    public int viewTake(int table, int number)
            throws IndexOutOfBoundsException, IllegalArgumentException, IllegalStateException {
        Table t = tableAt(table);
        needWorth(number);
        needView(t);
        if (t.view == BY_WORTHS) {
            return takeOnly(t, number);
        }
        t.tell();
        return t.lift(number) == NONE ? 0 : 1;
    }

    public int viewSum(int table) throws IndexOutOfBoundsException, IllegalStateException {
        Table t = tableAt(table);
        needView(t);
        return t.sumOf(t.view);
    }

    // ---- the house

    public int house(int what) throws IllegalArgumentException {
        needIn(what, 0, 4);
        if (what == 4) {
            return knocks;
        }
        int total = 0;
        for (int i = 0; i < tables.length; i++) {
            total += shareInHouse(tables[i], what);
        }
        return total;
    }

    public int knock() {
        knocks++;
        return knocks;
    }

    public boolean isSound() {
        for (int i = 0; i < tables.length; i++) {
            if (!isSoundAlone(tables[i])) {
                return false;
            }
        }
        for (int i = 0; i < tables.length; i++) {
            for (int j = 0; j < tables.length; j++) {
                if (!isSoundWith(tables[i], tables[j])) {
                    return false;
                }
            }
        }
        return true;
    }

    public long digest() {
        long d = 7702;
        for (int what = 0; what <= 4; what++) {
            d = mix(d, house(what));
        }
        for (int i = 0; i < TABLES; i++) {
            d = mixTable(d, i);
        }
        for (int i = 0; i < TABLES; i++) {
            for (int j = 0; j < TABLES; j++) {
                d = mixTwo(d, i, j);
            }
        }
        return mix(d, isSound() ? 1 : 0);
    }

    // ---- what the calls have to be given

    private Table tableAt(int table) {
        if (table < 0 || table >= tables.length) {
            throw new IndexOutOfBoundsException("no such table");
        }
        return tables[table];
    }

    private static void needIn(int number, int least, int greatest) {
        if (number < least || number > greatest) {
            throw new IllegalArgumentException("a number outside its bounds");
        }
    }

    private static void needName(int name) {
        needIn(name, 0, NAMES - 1);
    }

    private static void needWorth(int worth) {
        needIn(worth, 0, WORTHS - 1);
    }

    private static void needBy(int by) {
        needIn(by, -99, 99);
    }

    private static void needTwo(int table, int other) {
        if (table == other) {
            throw new IllegalArgumentException("both tables are the same");
        }
    }

    private static void needView(Table t) {
        if (t.view == NONE) {
            throw new IllegalStateException("no view");
        }
    }

    // ---- parts of the calls

    private static int joined(int there, int worth, int rule) {
        switch (rule) {
            case 0:
                return (there + worth) % WORTHS;
            case 1:
                return Math.max(there, worth);
            case 2:
                return Math.min(there, worth);
            default:
                return NONE;
        }
    }

    private static int takeOnly(Table t, int worth) {
        if (t.timesOf(worth) > 1) {
            return REFUSED;
        }
        t.tell();
        return t.liftWorth(worth);
    }

    private static int numberOf(int kind, int name, int worth) {
        switch (kind) {
            case BY_NAMES:
                return name;
            case BY_WORTHS:
                return worth;
            default:
                return name * worth;
        }
    }

    private void walkThrough(Table t, int kind) {
        probe.begin(kind);
        boolean goesOn = true;
        for (int i = 0; i < NAMES && goesOn; i++) {
            goesOn = probe.goOn(t);
        }
    }

    private int sumByWalk(Table t, int kind) {
        walkThrough(t, kind);
        return probe.total();
    }

    private void writePage(Table t) {
        page.setLength(0);
        t.writeTo(page);
    }

    private static int shareInHouse(Table t, int what) {
        switch (what) {
            case 0:
                return t.pairs();
            case 1:
                return t.pairs() == 0 ? 1 : 0;
            case 2:
                return t.walk.isThere() ? 1 : 0;
            default:
                return t.view == NONE ? 0 : 1;
        }
    }

    private boolean isSoundAlone(Table t) {
        for (int kind = BY_NAMES; kind <= BY_PAIRS; kind++) {
            walkThrough(t, kind);
            if (probe.done() != t.pairs() || probe.total() != t.sumOf(kind)) {
                return false;
            }
        }
        spare.becomeNew();
        spare.layAll(t);
        row.fillFrom(t);
        return spare.isLike(t) && t.isLike(spare)
                && spare.reckonCode() == t.reckonCode()
                && spare.reckonWidth() == t.reckonWidth()
                && row.isToldBy(t);
    }

    private static boolean isSoundWith(Table one, Table other) {
        boolean areEachWithin = one.holdsAll(other, BY_PAIRS) && other.holdsAll(one, BY_PAIRS);
        return one.isLike(other) == areEachWithin;
    }

    private static long mix(long d, long v) {
        return d * 31 + v;
    }

    private long mixTable(long start, int table) {
        long d = mix(start, size(table));
        writePage(tableAt(table));
        for (int i = 0; i < page.length(); i++) {
            d = mix(d, page.charAt(i));
        }
        d = mix(d, code(table));
        d = mix(d, width(table));
        for (int what = 0; what <= 5; what++) {
            d = mix(d, sum(table, what));
        }
        d = mix(d, extreme(table, true, false));
        d = mix(d, extreme(table, false, false));
        d = mix(d, extreme(table, true, true));
        d = mix(d, extreme(table, false, true));
        d = mix(d, hasStep(table));
        d = mix(d, walked(table));
        return mix(d, viewSize(table));
    }

    private long mixTwo(long start, int table, int other) {
        long d = mix(start, isSame(table, other) ? 1 : 0);
        for (int what = BY_NAMES; what <= BY_PAIRS; what++) {
            d = mix(d, within(table, other, what) ? 1 : 0);
        }
        return d;
    }

    /** The pairs of one table, with the walk and the view that it may have. */
    private static final class Table {
        private final int[] worthOf;
        // How many pairs have each worth: so that worths are asked for without a search.
        private final int[] times;
        private int pairs;
        private final Walk walk;
        // BY_NAMES, BY_WORTHS, or NONE.
        private int view;

        Table() {
            worthOf = new int[NAMES];
            for (int name = 0; name < worthOf.length; name++) {
                worthOf[name] = NONE;
            }
            times = new int[WORTHS];
            walk = new Walk();
            view = NONE;
        }

        int pairs() {
            return pairs;
        }

        int worthAt(int name) {
            return name >= 0 && name < worthOf.length ? worthOf[name] : NONE;
        }

        int timesOf(int worth) {
            return worth >= 0 && worth < times.length ? times[worth] : 0;
        }

        void tell() {
            walk.end();
        }

        int becomeNew() {
            tell();
            view = NONE;
            return liftAll();
        }

        /** Answers the worth before; a number that is no worth leaves the name without a pair. */
        int lay(int name, int number) {
            int before = lift(name);
            if (name >= 0 && name < worthOf.length && number >= 0 && number < times.length) {
                worthOf[name] = number;
                times[number]++;
                pairs++;
            }
            return before;
        }

        /** As lay, but answers the worth then. */
        int settle(int name, int number) {
            lay(name, number);
            return worthAt(name);
        }

        int lift(int name) {
            int before = worthAt(name);
            if (name >= 0 && name < worthOf.length && before >= 0 && before < times.length) {
                worthOf[name] = NONE;
                times[before]--;
                pairs--;
            }
            return before;
        }

        int liftAll() {
            int before = pairs;
            for (int name = 0; name < NAMES; name++) {
                lift(name);
            }
            return before;
        }

        int liftWorth(int worth) {
            int before = pairs;
            for (int name = 0; name < NAMES; name++) {
                if (worthAt(name) == worth) {
                    lift(name);
                }
            }
            return before - pairs;
        }

        /** Lifts the pairs of which the other one holds what is told, or those of which it does not. */
        int liftHeld(Table other, int what, boolean isHeld) {
            int before = pairs;
            for (int name = 0; name < NAMES; name++) {
                int worth = worthAt(name);
                if (worth != NONE && other.holds(what, name, worth) == isHeld) {
                    lift(name);
                }
            }
            return before - pairs;
        }

        int liftMultiples(int by, int what) {
            int before = pairs;
            for (int name = 0; name < NAMES; name++) {
                int worth = worthAt(name);
                int number = what == 2 ? name + worth : numberOf(what, name, worth);
                if (worth != NONE && by > 0 && number % by == 0) {
                    lift(name);
                }
            }
            return before - pairs;
        }

        void layAll(Table other) {
            for (int name = 0; name < NAMES; name++) {
                int worth = other.worthAt(name);
                if (worth != NONE) {
                    lay(name, worth);
                }
            }
        }

        void reckonAnew(int byWorth, int byName, int plus) {
            for (int name = 0; name < NAMES; name++) {
                int worth = worthAt(name);
                if (worth != NONE) {
                    lay(name, (byWorth * worth + byName * name + plus) % WORTHS);
                }
            }
        }

        boolean holds(int what, int name, int worth) {
            switch (what) {
                case BY_NAMES:
                    return worthAt(name) != NONE;
                case BY_WORTHS:
                    return timesOf(worth) > 0;
                default:
                    return worthAt(name) == worth;
            }
        }

        boolean holdsAll(Table other, int what) {
            for (int name = 0; name < NAMES; name++) {
                int worth = other.worthAt(name);
                if (worth != NONE && !holds(what, name, worth)) {
                    return false;
                }
            }
            return true;
        }

        boolean isLike(Table other) {
            return pairs == other.pairs && holdsAll(other, BY_PAIRS);
        }

        int sumOf(int kind) {
            int sum = 0;
            for (int name = 0; name < NAMES; name++) {
                int worth = worthAt(name);
                if (worth != NONE) {
                    sum += numberOf(kind, name, worth);
                }
            }
            return sum;
        }

        int outermost(boolean isLeast, int kind) {
            int best = REFUSED;
            for (int name = 0; name < NAMES; name++) {
                int worth = worthAt(name);
                if (worth != NONE) {
                    int number = numberOf(kind, name, worth);
                    boolean isFurther = isLeast ? number < best : number > best;
                    best = best == REFUSED || isFurther ? number : best;
                }
            }
            return best;
        }

        int reckonCode() {
            int sum = 0;
            for (int name = 0; name < NAMES; name++) {
                int worth = worthAt(name);
                if (worth != NONE) {
                    sum += (name % 5) ^ worth;
                }
            }
            return sum;
        }

        int reckonWidth() {
            int signs = 2;
            for (int name = 0; name < NAMES; name++) {
                int worth = worthAt(name);
                if (worth != NONE) {
                    signs += signsOf(name) + 1 + signsOf(worth);
                }
            }
            return pairs > 1 ? signs + 2 * (pairs - 1) : signs;
        }

        private static int signsOf(int number) {
            return number < 10 ? 1 : 2;
        }

        void writeTo(StringBuilder page) {
            for (int name = 0; name < NAMES; name++) {
                int worth = worthAt(name);
                if (worth != NONE) {
                    if (page.length() > 0) {
                        page.append(' ');
                    }
                    writeNumber(page, name);
                    page.append('=');
                    writeNumber(page, worth);
                }
            }
        }

        // Sign by sign, so that no text is made for a number on its way.
        private static void writeNumber(StringBuilder page, int number) {
            if (number >= 10) {
                page.append((char) ('0' + number / 10));
            }
            page.append((char) ('0' + number % 10));
        }
    }

    /** A walk over a table that is left as it is while the walk goes on. */
    private static final class Walk {
        private boolean isThere;
        private int kind;
        private int place;
        private int done;
        private int total;

        void begin(int newKind) {
            isThere = true;
            kind = newKind;
            place = 0;
            done = 0;
            total = 0;
        }

        void end() {
            isThere = false;
        }

        boolean isThere() {
            return isThere;
        }

        int done() {
            return done;
        }

        int total() {
            return total;
        }

        boolean goOn(Table over) {
            while (place < NAMES) {
                int name = place;
                place++;
                int worth = over.worthAt(name);
                if (worth != NONE) {
                    done++;
                    total += numberOf(kind, name, worth);
                    return true;
                }
            }
            return false;
        }
    }

    /** Pairs side by side without gaps: the row of another kind that isSound() asks for. */
    private static final class PairRow {
        private final int[] names;
        private final int[] worths;
        private int count;

        PairRow() {
            names = new int[NAMES];
            worths = new int[NAMES];
        }

        void fillFrom(Table t) {
            count = 0;
            for (int name = 0; name < NAMES; name++) {
                int worth = t.worthAt(name);
                if (worth != NONE && count < names.length && count < worths.length) {
                    names[count] = name;
                    worths[count] = worth;
                    count++;
                }
            }
        }

        boolean isToldBy(Table t) {
            if (count != t.pairs()) {
                return false;
            }
            for (int i = 0; i < count && i < names.length && i < worths.length; i++) {
                if (t.worthAt(names[i]) != worths[i] || t.timesOf(worths[i]) < 1) {
                    return false;
                }
            }
            return true;
        }
    }
}
