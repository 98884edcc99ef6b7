/**
 * Contexts of a dig and what was told of them: which lies above, cuts, fills which, which are one;
 * the order that follows, without rings; the fewest links that tell it, groups that keep it, and
 * what differs between two tellings.
 */
public final class RelationOrder {

    public static final int NONE = -1;

    private static final int MOST_CONTEXTS = 48;
    private static final int MOST_RELATIONS = 200;
    private static final int MOST_GROUPS = 12;
    private static final int MOST_VERSIONS = 8;

    private static final int EQUAL = 3;
    private static final int CONTEMPORARY = 4;

    private final Relations relations;
    private final Strata strata;
    private final Ring toldRing;
    private final Groups groups;
    private final Version[] versions;
    private int versionsMade;

    public RelationOrder() {
        relations = new Relations();
        strata = new Strata();
        toldRing = new Ring();
        groups = new Groups();
        versions = new Version[MOST_VERSIONS];
        versionsMade = 0;
    }

    public int context() throws IllegalStateException {
        if (strata.contexts() >= MOST_CONTEXTS) {
            throw new IllegalStateException("there are 48 contexts");
        }
        return strata.addContext();
    }

    public int relate(int a, int b, int kind)
            throws IndexOutOfBoundsException, IllegalStateException {
        checkContext(a);
        checkContext(b);
        if (kind < 0 || kind > CONTEMPORARY) {
            throw new IndexOutOfBoundsException("no such kind");
        }
        if (relations.made() >= MOST_RELATIONS) {
            throw new IllegalStateException("there were 200 relations");
        }
        if (closesRing(strata.numberOf(a), strata.numberOf(b), kind)) {
            return NONE;
        }
        int relation = relations.add(a, b, kind);
        if (kind != CONTEMPORARY) {
            strata.rebuild(relations);
        }
        return relation;
    }

    public int ring(int k) throws IndexOutOfBoundsException {
        checkPlace(k);
        return toldRing.place(k);
    }

    public boolean undo(int relation) throws IndexOutOfBoundsException {
        if (relation < 0 || relation >= relations.made()) {
            throw new IndexOutOfBoundsException("no such relation");
        }
        if (!relations.drop(relation)) {
            return false;
        }
        strata.rebuild(relations);
        return true;
    }

    public int order(int a, int b) throws IndexOutOfBoundsException {
        checkContext(a);
        checkContext(b);
        if (strata.isOver(a, b)) {
            return 1;
        }
        return strata.isOver(b, a) ? -1 : 0;
    }

    public int links() {
        return strata.linkCount();
    }

    public int link(int k, int which) throws IndexOutOfBoundsException {
        if (which < 0 || which > 1) {
            throw new IndexOutOfBoundsException("a link has an upper one, 0, and a lower one, 1");
        }
        if (k < 0 || k >= strata.linkCount()) {
            throw new IndexOutOfBoundsException("no such link");
        }
        return strata.linkEnd(k, which == 0);
    }

    public int equal(int context) throws IndexOutOfBoundsException {
        checkContext(context);
        return strata.numberOf(context);
    }

    public boolean contemporary(int a, int b) throws IndexOutOfBoundsException {
        checkContext(a);
        checkContext(b);
        return strata.areContemporary(a, b, relations);
    }

    public int longest(int context) throws IndexOutOfBoundsException {
        checkContext(context);
        return strata.chainAbove(context);
    }

    public int group() throws IllegalStateException {
        if (groups.made() >= MOST_GROUPS) {
            throw new IllegalStateException("there are twelve groups");
        }
        return groups.add();
    }

    public boolean into(int group, int context) throws IndexOutOfBoundsException {
        if (group < 0 || group >= groups.made()) {
            throw new IndexOutOfBoundsException("no such group");
        }
        checkContext(context);
        return groups.move(group, context, strata);
    }

    public int groupRing(int k) throws IndexOutOfBoundsException {
        checkPlace(k);
        return groups.ringPlace(k);
    }

    public int groupOf(int context) throws IndexOutOfBoundsException {
        checkContext(context);
        return groups.homeOf(context);
    }

    public int version() throws IllegalStateException {
        if (versionsMade < 0 || versionsMade >= versions.length) {
            throw new IllegalStateException("there are eight versions");
        }
        versions[versionsMade] = new Version(strata);
        versionsMade++;
        return versionsMade - 1;
    }

    public int differs(int one, int other, int k) throws IndexOutOfBoundsException {
        Version first = versionAt(one);
        Version second = versionAt(other);
        if (first == null || second == null) {
            throw new IndexOutOfBoundsException("no such version");
        }
        checkPlace(k);
        return nthOf(first.differences(second), k);
    }

    public int count(int what) throws IndexOutOfBoundsException {
        switch (what) {
            case 0:
                return strata.contexts();
            case 1:
                return relations.standing();
            case 2:
                return strata.joinedCount();
            case 3:
                return strata.pairCount();
            case 4:
                return groups.made();
            default:
                throw new IndexOutOfBoundsException("nothing to count");
        }
    }

    private void checkContext(int context) {
        if (context < 0 || context >= strata.contexts()) {
            throw new IndexOutOfBoundsException("no such context");
        }
    }

    private static void checkPlace(int k) {
        if (k < 0) {
            throw new IndexOutOfBoundsException("no such place");
        }
    }

    private Version versionAt(int at) {
        return at >= 0 && at < versions.length ? versions[at] : null;
    }

    /** Whether a relation of two joined ones would close a ring; only then a ring is told. */
    private boolean closesRing(int one, int other, int kind) {
        if (kind == CONTEMPORARY) {
            return false;
        }
        if (kind != EQUAL) {
            return strata.tellRingWith(one, other, one, toldRing);
        }
        // Two that are one already stay one; else they may not be in order either way.
        return one != other
                && (strata.tellRingWith(other, one, one, toldRing)
                        || strata.tellRingWith(one, other, other, toldRing));
    }

    /** The k-th lowest member of a set, k from 0; NONE if it has not so many. */
    private static int nthOf(long set, int k) {
        int left = k;
        for (int x = 0; x < MOST_CONTEXTS; x++) {
            if (((set >>> x) & 1L) != 0L) {
                if (left == 0) {
                    return x;
                }
                left--;
            }
        }
        return NONE;
    }

    /** A row of numbers that answers NONE where it has no place, so that no index can go astray. */
    private static final class Cells {
        private final int[] cells;

        Cells(int size) {
            cells = new int[Math.max(0, size)];
            for (int i = 0; i < cells.length; i++) {
                cells[i] = NONE;
            }
        }

        int at(int i) {
            return i >= 0 && i < cells.length ? cells[i] : NONE;
        }

        void put(int i, int value) {
            if (i >= 0 && i < cells.length) {
                cells[i] = value;
            }
        }

        void replace(int old, int value) {
            for (int i = 0; i < cells.length; i++) {
                if (cells[i] == old) {
                    cells[i] = value;
                }
            }
        }
    }

    /** For each number the set of numbers below it; 48 at most fit into a long. */
    private static final class Rows {
        private final long[] rows;

        Rows(int size) {
            rows = new long[Math.min(Math.max(0, size), MOST_CONTEXTS)];
        }

        private boolean isPlace(int at) {
            return at >= 0 && at < rows.length;
        }

        long row(int at) {
            return isPlace(at) ? rows[at] : 0L;
        }

        void put(int at, long set) {
            if (isPlace(at)) {
                rows[at] = set;
            }
        }

        boolean has(int at, int other) {
            return isPlace(at) && isPlace(other) && ((rows[at] >>> other) & 1L) != 0L;
        }

        void mark(int at, int other) {
            if (isPlace(at) && isPlace(other)) {
                rows[at] |= 1L << other;
            }
        }

        void clear() {
            for (int at = 0; at < rows.length; at++) {
                rows[at] = 0L;
            }
        }

        /** All that have some member of a set below them. */
        long above(long set) {
            long found = 0L;
            for (int at = 0; at < rows.length; at++) {
                if ((rows[at] & set) != 0L) {
                    found |= 1L << at;
                }
            }
            return found;
        }

        /** Becomes what follows from other rows, one step behind the other. */
        void close(Rows steps) {
            for (int at = 0; at < rows.length; at++) {
                rows[at] = steps.row(at);
            }
            for (int middle = 0; middle < rows.length; middle++) {
                long beyond = rows[middle];
                for (int at = 0; at < rows.length && beyond != 0L; at++) {
                    if (((rows[at] >>> middle) & 1L) != 0L) {
                        rows[at] |= beyond;
                    }
                }
            }
        }
    }

    /** What was told, in the order of telling; an undone relation keeps its place but has no kind. */
    private static final class Relations {
        private final Cells uppers;
        private final Cells lowers;
        private final Cells kinds;
        private int made;
        private int standing;

        Relations() {
            uppers = new Cells(MOST_RELATIONS);
            lowers = new Cells(MOST_RELATIONS);
            kinds = new Cells(MOST_RELATIONS);
            made = 0;
            standing = 0;
        }

        int made() {
            return made;
        }

        int standing() {
            return standing;
        }

        int upperOf(int relation) {
            return uppers.at(relation);
        }

        int lowerOf(int relation) {
            return lowers.at(relation);
        }

        int kindOf(int relation) {
            return kinds.at(relation);
        }

        int add(int a, int b, int kind) {
            uppers.put(made, a);
            lowers.put(made, b);
            kinds.put(made, kind);
            made++;
            standing++;
            return made - 1;
        }

        boolean drop(int relation) {
            if (kinds.at(relation) == NONE) {
                return false;
            }
            kinds.put(relation, NONE);
            standing--;
            return true;
        }
    }

    /** A ring that was told; it stays until the next one is found. */
    private static final class Ring {
        private final Cells places;
        private final long[] layers;
        private int length;

        Ring() {
            places = new Cells(MOST_CONTEXTS);
            layers = new long[MOST_CONTEXTS];
            length = 0;
        }

        int place(int k) {
            return k < length ? places.at(k) : NONE;
        }

        /** Tells the shortest ring through start, from it on; false, and nothing told, if none. */
        boolean tell(Rows steps, int start) {
            int found = measure(steps, start);
            if (found == 0) {
                return false;
            }
            write(steps, start, found);
            return true;
        }

        /** Layer i becomes those whose shortest way down to start has i + 1 steps. */
        private int measure(Rows steps, int start) {
            long layer = 1L << start;
            long seen = 0L;
            for (int i = 0; i < layers.length && layer != 0L; i++) {
                layer = steps.above(layer) & ~seen;
                layers[i] = layer;
                seen |= layer;
                if (((layer >>> start) & 1L) != 0L) {
                    return i + 1;
                }
            }
            return 0;
        }

        /** Every member of a layer leads on, so the lowest at each step gives the lowest ring. */
        private void write(Rows steps, int start, int found) {
            int at = start;
            for (int k = 0; k < found; k++) {
                places.put(k, at);
                int layer = found - 2 - k;
                if (layer >= 0 && layer < layers.length) {
                    at = nthOf(steps.row(at) & layers[layer], 0);
                }
            }
            length = found;
        }
    }

    /** The order that follows from the relations; its rows are by the numbers of joined ones. */
    private static final class Strata {
        private final Cells numbers;
        private final Rows steps;
        private final Rows under;
        private int contexts;

        Strata() {
            numbers = new Cells(MOST_CONTEXTS);
            steps = new Rows(MOST_CONTEXTS);
            under = new Rows(MOST_CONTEXTS);
            contexts = 0;
        }

        int contexts() {
            return contexts;
        }

        int addContext() {
            numbers.put(contexts, contexts);
            contexts++;
            return contexts - 1;
        }

        int numberOf(int context) {
            return numbers.at(context);
        }

        boolean isOver(int a, int b) {
            return under.has(numbers.at(a), numbers.at(b));
        }

        /** All anew, since an undone relation may split what was one and loosen what was in order. */
        void rebuild(Relations told) {
            join(told);
            steps.clear();
            for (int r = 0; r < told.made(); r++) {
                int kind = told.kindOf(r);
                if (kind >= 0 && kind < EQUAL) {
                    steps.mark(numbers.at(told.upperOf(r)), numbers.at(told.lowerOf(r)));
                }
            }
            under.close(steps);
        }

        private void join(Relations told) {
            for (int c = 0; c < contexts; c++) {
                numbers.put(c, c);
            }
            for (int r = 0; r < told.made(); r++) {
                if (told.kindOf(r) == EQUAL) {
                    int one = numbers.at(told.upperOf(r));
                    int other = numbers.at(told.lowerOf(r));
                    numbers.replace(Math.max(one, other), Math.min(one, other));
                }
            }
        }

        /** Tells the ring from start on that there would be if upper lay right above lower too. */
        boolean tellRingWith(int upper, int lower, int start, Ring ring) {
            long before = steps.row(upper);
            steps.mark(upper, lower);
            boolean found = ring.tell(steps, start);
            steps.put(upper, before);
            return found;
        }

        private boolean areJoined(int a, int b) {
            return numbers.at(a) == numbers.at(b);
        }

        boolean areContemporary(int a, int b, Relations told) {
            if (areJoined(a, b)) {
                return true;
            }
            for (int r = 0; r < told.made(); r++) {
                if (told.kindOf(r) == CONTEMPORARY) {
                    int one = told.upperOf(r);
                    int other = told.lowerOf(r);
                    if ((areJoined(a, one) && areJoined(b, other))
                            || (areJoined(a, other) && areJoined(b, one))) {
                        return true;
                    }
                }
            }
            return false;
        }

        /** Those right under an upper one: what lies under another one under it has that between. */
        private long linksUnder(int upper) {
            long all = under.row(upper);
            long further = 0L;
            for (int middle = 0; middle < contexts; middle++) {
                if (under.has(upper, middle)) {
                    further |= under.row(middle);
                }
            }
            return all & ~further;
        }

        int linkCount() {
            int found = 0;
            for (int upper = 0; upper < contexts; upper++) {
                found += Long.bitCount(linksUnder(upper));
            }
            return found;
        }

        int linkEnd(int k, boolean wantsUpper) {
            int left = k;
            for (int upper = 0; upper < contexts; upper++) {
                long lowers = linksUnder(upper);
                int here = Long.bitCount(lowers);
                if (left < here) {
                    return wantsUpper ? upper : nthOf(lowers, left);
                }
                left -= here;
            }
            return NONE;
        }

        /** Each round takes the lowest end off every way, so the rounds count the longest one. */
        int chainAbove(int context) {
            long left = under.above(1L << numbers.at(context));
            int chain = 0;
            while (chain < MOST_CONTEXTS && left != 0L) {
                left &= under.above(left);
                chain++;
            }
            return chain;
        }

        int joinedCount() {
            int found = 0;
            for (int c = 0; c < contexts; c++) {
                if (numbers.at(c) == c) {
                    found++;
                }
            }
            return found;
        }

        int pairCount() {
            int found = 0;
            for (int c = 0; c < contexts; c++) {
                found += Long.bitCount(under.row(c));
            }
            return found;
        }
    }

    /** Which contexts are in which group, and the ring of groups that was told latest. */
    private static final class Groups {
        private final Cells homes;
        private final Rows lower;
        private final Ring ring;
        private int made;

        Groups() {
            homes = new Cells(MOST_CONTEXTS);
            lower = new Rows(MOST_GROUPS);
            ring = new Ring();
            made = 0;
        }

        int made() {
            return made;
        }

        int add() {
            made++;
            return made - 1;
        }

        int homeOf(int context) {
            return homes.at(context);
        }

        int ringPlace(int k) {
            return ring.place(k);
        }

        /** The move is tried, and taken back if the group is in a ring then. */
        boolean move(int group, int context, Strata strata) {
            int before = homes.at(context);
            homes.put(context, group);
            compare(strata);
            if (ring.tell(lower, group)) {
                homes.put(context, before);
                return false;
            }
            return true;
        }

        private void compare(Strata strata) {
            lower.clear();
            for (int a = 0; a < strata.contexts(); a++) {
                int home = homes.at(a);
                for (int b = 0; b < strata.contexts() && home != NONE; b++) {
                    // A group is never over itself, whatever the order inside it.
                    if (homes.at(b) != home && strata.isOver(a, b)) {
                        lower.mark(home, homes.at(b));
                    }
                }
            }
        }
    }

    /** What was told at one time, context by context; later contexts have no number in it. */
    private static final class Version {
        private final Cells numbers;
        private final Rows under;
        private final Rows over;

        Version(Strata strata) {
            numbers = new Cells(MOST_CONTEXTS);
            under = new Rows(MOST_CONTEXTS);
            over = new Rows(MOST_CONTEXTS);
            for (int a = 0; a < strata.contexts(); a++) {
                numbers.put(a, strata.numberOf(a));
                for (int b = 0; b < strata.contexts(); b++) {
                    if (strata.isOver(a, b)) {
                        under.mark(a, b);
                        over.mark(b, a);
                    }
                }
            }
        }

        /** The set of the contexts of which two versions differ. */
        long differences(Version other) {
            long found = 0L;
            for (int c = 0; c < MOST_CONTEXTS; c++) {
                if (numbers.at(c) != other.numbers.at(c)
                        || under.row(c) != other.under.row(c)
                        || over.row(c) != other.over.row(c)) {
                    found |= 1L << c;
                }
            }
            return found;
        }
    }
}
