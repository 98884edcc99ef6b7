import java.util.ArrayList;
import java.util.List;
import java.util.TreeSet;

/**
 * The document's terms by plain search, with nothing kept but what was told. It shares no way of
 * reckoning with the program, so that the two do not err alike.
 */
final class Naive {
    static final class Told {
        final int a;
        final int b;
        final int kind;
        boolean undone;

        Told(int a, int b, int kind) {
            this.a = a;
            this.b = b;
            this.kind = kind;
        }
    }

    /** Number, contexts over it and contexts under it, for each context that there was. */
    private static final class Telling {
        final List<String> tales = new ArrayList<>();
    }

    private interface Step {
        boolean leads(int from, int to);
    }

    int contexts = 0;
    int groups = 0;
    final List<Told> told = new ArrayList<>();
    final List<Integer> homes = new ArrayList<>();
    private final List<Telling> versions = new ArrayList<>();
    List<Integer> ring = new ArrayList<>();
    List<Integer> groupRing = new ArrayList<>();

    private static void need(boolean there) {
        if (!there) {
            throw new IndexOutOfBoundsException();
        }
    }

    private static void needRoom(boolean room) {
        if (!room) {
            throw new IllegalStateException();
        }
    }

    private void needContext(int c) {
        need(c >= 0 && c < contexts);
    }

    int context() {
        needRoom(contexts < 48);
        homes.add(-1);
        return contexts++;
    }

    /** All contexts that are one with c, c too. */
    private TreeSet<Integer> joined(int c) {
        TreeSet<Integer> all = new TreeSet<>();
        List<Integer> open = new ArrayList<>();
        open.add(c);
        while (!open.isEmpty()) {
            int x = open.remove(open.size() - 1);
            if (all.add(x)) {
                for (Told t : told) {
                    if (!t.undone && t.kind == 3 && t.a == x) {
                        open.add(t.b);
                    }
                    if (!t.undone && t.kind == 3 && t.b == x) {
                        open.add(t.a);
                    }
                }
            }
        }
        return all;
    }

    private int number(int c) {
        return joined(c).first();
    }

    private boolean[][] stepsOfNumbers() {
        boolean[][] steps = new boolean[48][48];
        for (Told t : told) {
            if (!t.undone && t.kind < 3) {
                steps[number(t.a)][number(t.b)] = true;
            }
        }
        return steps;
    }

    /** Whether a way of one or more steps leads from one to the other, by search. */
    private boolean reaches(boolean[][] steps, int from, int to, boolean[] seen) {
        for (int next = 0; next < steps.length; next++) {
            if (steps[from][next] && !seen[next]) {
                seen[next] = true;
                if (next == to || reaches(steps, next, to, seen)) {
                    return true;
                }
            }
        }
        return false;
    }

    private boolean[][] overAll() {
        boolean[][] steps = stepsOfNumbers();
        boolean[][] over = new boolean[48][48];
        for (int a = 0; a < contexts; a++) {
            for (int b = 0; b < contexts; b++) {
                over[a][b] = number(a) == a && number(b) == b && reaches(steps, a, b, new boolean[48]);
            }
        }
        return over;
    }

    private boolean over(int a, int b) {
        return reaches(stepsOfNumbers(), number(a), number(b), new boolean[48]);
    }

    /** Rings of each length in turn, the lower numbers first: the first one found is the one due. */
    private static List<Integer> shortestRing(Step step, int size, int start) {
        for (int length = 1; length <= size; length++) {
            List<Integer> way = new ArrayList<>();
            way.add(start);
            if (extend(step, size, way, length)) {
                return way;
            }
        }
        return null;
    }

    private static boolean extend(Step step, int size, List<Integer> way, int length) {
        int last = way.get(way.size() - 1);
        if (way.size() == length) {
            return step.leads(last, way.get(0));
        }
        for (int next = 0; next < size; next++) {
            if (step.leads(last, next) && !way.contains(next)) {
                way.add(next);
                if (extend(step, size, way, length)) {
                    return true;
                }
                way.remove(way.size() - 1);
            }
        }
        return false;
    }

    int relate(int a, int b, int kind) {
        needContext(a);
        needContext(b);
        need(kind >= 0 && kind <= 4);
        needRoom(told.size() < 200);
        int one = number(a);
        int other = number(b);
        boolean[][] steps = stepsOfNumbers();
        int start = one;
        boolean closes = false;
        if (kind < 3) {
            closes = one == other || over(b, a);
            steps[one][other] = true;
        } else if (kind == 3 && over(a, b)) {
            closes = true;
            steps[other][one] = true;
        } else if (kind == 3 && over(b, a)) {
            closes = true;
            steps[one][other] = true;
            start = other;
        }
        if (closes) {
            ring = shortestRing((from, to) -> steps[from][to], 48, start);
            return -1;
        }
        told.add(new Told(a, b, kind));
        return told.size() - 1;
    }

    private static int place(List<Integer> places, int k) {
        need(k >= 0);
        return k < places.size() ? places.get(k) : -1;
    }

    int ring(int k) {
        return place(ring, k);
    }

    boolean undo(int relation) {
        need(relation >= 0 && relation < told.size());
        boolean stood = !told.get(relation).undone;
        told.get(relation).undone = true;
        return stood;
    }

    int order(int a, int b) {
        needContext(a);
        needContext(b);
        return over(a, b) ? 1 : over(b, a) ? -1 : 0;
    }

    private List<int[]> allLinks() {
        boolean[][] over = overAll();
        List<int[]> found = new ArrayList<>();
        for (int a = 0; a < contexts; a++) {
            for (int b = 0; b < contexts; b++) {
                boolean between = false;
                for (int m = 0; m < contexts; m++) {
                    between |= over[a][m] && over[m][b];
                }
                if (over[a][b] && !between) {
                    found.add(new int[] {a, b});
                }
            }
        }
        return found;
    }

    int links() {
        return allLinks().size();
    }

    int link(int k, int which) {
        List<int[]> all = allLinks();
        need(k >= 0 && k < all.size() && which >= 0 && which <= 1);
        return all.get(k)[which];
    }

    int equal(int c) {
        needContext(c);
        return number(c);
    }

    boolean contemporary(int a, int b) {
        needContext(a);
        needContext(b);
        TreeSet<Integer> withA = joined(a);
        TreeSet<Integer> withB = joined(b);
        boolean found = withA.contains(b);
        for (Told t : told) {
            found |= !t.undone && t.kind == 4
                    && (withA.contains(t.a) && withB.contains(t.b)
                            || withA.contains(t.b) && withB.contains(t.a));
        }
        return found;
    }

    int longest(int c) {
        needContext(c);
        return longestTo(stepsOfNumbers(), number(c), new int[48]);
    }

    /** Kept plus one, so that 0 is not reckoned yet. */
    private int longestTo(boolean[][] steps, int number, int[] known) {
        if (known[number] == 0) {
            int most = 0;
            for (int upper = 0; upper < 48; upper++) {
                if (steps[upper][number]) {
                    most = Math.max(most, 1 + longestTo(steps, upper, known));
                }
            }
            known[number] = most + 1;
        }
        return known[number] - 1;
    }

    int group() {
        needRoom(groups < 12);
        return groups++;
    }

    boolean into(int group, int c) {
        need(group >= 0 && group < groups);
        needContext(c);
        int before = homes.set(c, group);
        boolean[][] over = new boolean[12][12];
        boolean[][] contextsOver = overAll();
        for (int a = 0; a < contexts; a++) {
            for (int b = 0; b < contexts; b++) {
                int upper = homes.get(a);
                int lower = homes.get(b);
                if (upper >= 0 && lower >= 0 && upper != lower && contextsOver[number(a)][number(b)]) {
                    over[upper][lower] = true;
                }
            }
        }
        List<Integer> found = shortestRing((from, to) -> over[from][to], 12, group);
        if (found != null) {
            homes.set(c, before);
            groupRing = found;
        }
        return found == null;
    }

    int groupRing(int k) {
        return place(groupRing, k);
    }

    int groupOf(int c) {
        needContext(c);
        return homes.get(c);
    }

    int version() {
        needRoom(versions.size() < 8);
        Telling telling = new Telling();
        boolean[][] over = overAll();
        for (int c = 0; c < contexts; c++) {
            TreeSet<Integer> above = new TreeSet<>();
            TreeSet<Integer> below = new TreeSet<>();
            for (int d = 0; d < contexts; d++) {
                if (over[number(d)][number(c)]) {
                    above.add(d);
                }
                if (over[number(c)][number(d)]) {
                    below.add(d);
                }
            }
            telling.tales.add(number(c) + " under " + above + " over " + below);
        }
        versions.add(telling);
        return versions.size() - 1;
    }

    int differs(int one, int other, int k) {
        need(one >= 0 && one < versions.size() && other >= 0 && other < versions.size() && k >= 0);
        List<Integer> found = new ArrayList<>();
        for (int c = 0; c < 48; c++) {
            if (!tale(one, c).equals(tale(other, c))) {
                found.add(c);
            }
        }
        return place(found, k);
    }

    private String tale(int version, int c) {
        List<String> tales = versions.get(version).tales;
        return c < tales.size() ? tales.get(c) : "none";
    }

    int count(int what) {
        need(what >= 0 && what <= 4);
        int found = 0;
        if (what == 0) {
            return contexts;
        }
        if (what == 4) {
            return groups;
        }
        if (what == 1) {
            for (Told t : told) {
                found += t.undone ? 0 : 1;
            }
            return found;
        }
        boolean[][] over = overAll();
        for (int a = 0; a < contexts; a++) {
            found += what == 2 && number(a) == a ? 1 : 0;
            for (int b = 0; b < contexts; b++) {
                found += what == 3 && over[a][b] ? 1 : 0;
            }
        }
        return found;
    }
}
