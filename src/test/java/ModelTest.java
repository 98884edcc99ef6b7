/** Runs of 512 calls, wrong ones among them, answered by the program and by the plain model. */
public final class ModelTest {
    private static final int CALLS = 512;
    private static final int THROWS_PLACE = -1000;
    private static final int THROWS_FULL = -2000;

    private interface Call {
        long answer();
    }

    // An own source of numbers, so that every run of the test is the same.
    private long seed;
    private final RelationOrder program = new RelationOrder();
    private final Naive model = new Naive();
    private int calls = 0;
    private int relations = 0;
    private int versions = 0;
    private final int most;
    private final int[] shares;

    private ModelTest(long seed, int most, int[] shares) {
        this.seed = seed * 7919 + 17;
        this.most = most;
        this.shares = shares;
    }

    public static void main(String[] args) {
        // How often in a hundred: relate, undo, into, context, group or version; the rest asks.
        int[] mixed = {20, 6, 12, 6, 4, 3};
        int[] told = {45, 3, 5, 4, 2, 1};
        int[] undone = {25, 25, 5, 4, 2, 1};
        int[] grouped = {10, 3, 50, 5, 8, 1};
        for (int run = 0; run < 60; run++) {
            new ModelTest(run, 4 + run % 7, mixed).run("mixed " + run);
            new ModelTest(1000 + run, 6 + run % 9, told).run("told " + run);
            new ModelTest(2000 + run, 5 + run % 9, undone).run("undone " + run);
            new ModelTest(3000 + run, 8 + run % 12, grouped).run("grouped " + run);
        }
        for (int run = 0; run < 4; run++) {
            new ModelTest(4000 + run, 60, mixed).run("many " + run);
        }
        Expect.end();
    }

    private int below(int bound) {
        seed = seed * 6364136223846793005L + 1442695040888963407L;
        return (int) ((seed >>> 33) % bound);
    }

    /** A number that is there, mostly. */
    private int some(int there) {
        int chance = below(60);
        if (chance == 0) {
            return -1;
        }
        if (chance == 1) {
            return there;
        }
        return there == 0 ? 0 : below(there);
    }

    private void run(String name) {
        while (calls < CALLS) {
            int chance = below(100);
            int doing = 0;
            while (doing < shares.length && chance >= shares[doing]) {
                chance -= shares[doing];
                doing++;
            }
            tell(name + ", call " + calls, doing);
        }
    }

    private void tell(String at, int doing) {
        switch (doing) {
            case 0 -> relate(at);
            case 1 -> {
                int r = some(relations);
                both(at + " undo " + r, () -> program.undo(r) ? 1 : 0, () -> model.undo(r) ? 1 : 0);
            }
            case 2 -> {
                int g = some(model.groups);
                int c = some(model.contexts);
                long got = both(at + " into " + g + " " + c,
                        () -> program.into(g, c) ? 1 : 0, () -> model.into(g, c) ? 1 : 0);
                for (int k = 0; got == 0 && k <= model.groupRing.size(); k++) {
                    int place = k;
                    both(at + " groupRing " + k, () -> program.groupRing(place), () -> model.groupRing(place));
                }
            }
            case 3 -> context(at);
            case 4 -> both(at + " group", program::group, model::group);
            case 5 -> {
                if (both(at + " version", program::version, model::version) >= 0) {
                    versions++;
                    difference(at, versions - 2);
                }
            }
            default -> ask(at);
        }
    }

    /** All that a version and the next one differ in. */
    private void difference(String at, int version) {
        long got = version < 0 ? RelationOrder.NONE : 0;
        for (int k = 0; got >= 0 && k <= most; k++) {
            int place = k;
            got = both(at + " differs " + version + " " + k,
                    () -> program.differs(version, version + 1, place),
                    () -> model.differs(version, version + 1, place));
        }
    }

    private void context(String at) {
        if (model.contexts < most) {
            both(at + " context", program::context, model::context);
        } else {
            ask(at);
        }
    }

    private void relate(String at) {
        int a = some(model.contexts);
        int b = some(model.contexts);
        int kind = below(3) == 0 ? some(5) : below(3);
        long got = both(at + " relate " + a + " " + b + " " + kind,
                () -> program.relate(a, b, kind), () -> model.relate(a, b, kind));
        if (got >= 0) {
            relations++;
        }
        for (int k = 0; got == RelationOrder.NONE && k <= model.ring.size(); k++) {
            int place = k;
            both(at + " ring " + k, () -> program.ring(place), () -> model.ring(place));
        }
    }

    private void ask(String at) {
        int a = some(model.contexts);
        int b = some(model.contexts);
        int k = below(8) - (below(30) == 0 ? 8 : 0);
        int which = some(2);
        int what = some(5);
        int link = some(model.links());
        int one = some(versions);
        int other = some(versions);
        switch (below(12)) {
            case 0 -> both(at + " ring " + k, () -> program.ring(k), () -> model.ring(k));
            case 1 -> both(at + " order", () -> program.order(a, b), () -> model.order(a, b));
            case 2 -> both(at + " links", program::links, model::links);
            case 3 -> both(at + " link", () -> program.link(link, which), () -> model.link(link, which));
            case 4 -> both(at + " equal", () -> program.equal(a), () -> model.equal(a));
            case 5 -> both(at + " contemporary",
                    () -> program.contemporary(a, b) ? 1 : 0, () -> model.contemporary(a, b) ? 1 : 0);
            case 6 -> both(at + " longest", () -> program.longest(a), () -> model.longest(a));
            case 7 -> both(at + " groupRing " + k, () -> program.groupRing(k), () -> model.groupRing(k));
            case 8 -> both(at + " groupOf", () -> program.groupOf(a), () -> model.groupOf(a));
            case 9, 10 -> both(at + " differs " + one + " " + other + " " + k,
                    () -> program.differs(one, other, k), () -> model.differs(one, other, k));
            default -> both(at + " count " + what, () -> program.count(what), () -> model.count(what));
        }
    }

    private long both(String what, Call got, Call due) {
        if (calls >= CALLS) {
            return THROWS_FULL;
        }
        calls++;
        long answer = answer(got);
        Expect.same(what, answer(due), answer);
        return answer;
    }

    private static long answer(Call call) {
        try {
            return call.answer();
        } catch (IndexOutOfBoundsException e) {
            // The machine's own exceptions are subclasses, and are never due.
            if (e.getClass() != IndexOutOfBoundsException.class) {
                throw e;
            }
            return THROWS_PLACE;
        } catch (IllegalStateException e) {
            return THROWS_FULL;
        }
    }
}
