import java.util.ArrayList;
import java.util.List;
import java.util.function.Supplier;

/**
 * The document's "EXCEPTIONS", promise by promise: every call that there is nothing for, or no room,
 * throws what is told and changes nothing.
 */
public final class ExceptionEdgeTest {
    // What there is not in Dig.rich(): it has contexts 0 .. 6, relations 0 .. 5, groups 0 .. 2,
    // versions 0 and 1, links 0 .. 2.
    private static final int[] NO_CONTEXT = {Integer.MIN_VALUE, -48, -1, 7, 8, 48, 64, Integer.MAX_VALUE};
    private static final int[] NO_RELATION = {Integer.MIN_VALUE, -1, 6, 199, 200, Integer.MAX_VALUE};
    private static final int[] NO_KIND = {Integer.MIN_VALUE, -1, 5, Integer.MAX_VALUE};
    private static final int[] NO_GROUP = {Integer.MIN_VALUE, -1, 3, 11, 12, Integer.MAX_VALUE};
    private static final int[] NO_VERSION = {Integer.MIN_VALUE, -1, 2, 7, 8, Integer.MAX_VALUE};
    private static final int[] NO_PLACE = {Integer.MIN_VALUE, -2, -1};
    private static final int[] NO_LINK = {Integer.MIN_VALUE, -1, 3, 48, Integer.MAX_VALUE};
    private static final int[] NO_END = {Integer.MIN_VALUE, -1, 2, Integer.MAX_VALUE};
    private static final int[] NO_WHAT = {Integer.MIN_VALUE, -1, 5, Integer.MAX_VALUE};

    private interface Call {
        Object of(Dig x);
    }

    private record Wrong(String name, Call call) {
    }

    private ExceptionEdgeTest() {
    }

    public static void main(String[] args) {
        noSuch(3, "no such context", relateOfNoContext());
        noSuch(3, "no such kind", relateOfNoKind());
        noSuch(4, "no such place", with(NO_PLACE, "ring", (x, k) -> x.ring(k)));
        noSuch(5, "no such relation", with(NO_RELATION, "undo", (x, r) -> x.undo(r)));
        noSuch(6, "no such context", withTwo(NO_CONTEXT, "order", (x, a, b) -> x.order(a, b)));
        noSuch(8, "no such place", with(NO_LINK, "link of which 0", (x, k) -> x.link(k, 0)));
        noSuch(8, "no such place", with(NO_LINK, "link of which 1", (x, k) -> x.link(k, 1)));
        noSuch(8, "no such place", with(NO_END, "link 2 of which", (x, end) -> x.link(2, end)));
        noSuch(9, "no such context", with(NO_CONTEXT, "equal", (x, c) -> x.equal(c)));
        noSuch(10, "no such context",
                withTwo(NO_CONTEXT, "contemporary", (x, a, b) -> x.contemporary(a, b)));
        noSuch(11, "no such context", with(NO_CONTEXT, "longest", (x, c) -> x.longest(c)));
        noSuch(13, "no such group", with(NO_GROUP, "into with context 0, group", (x, g) -> x.into(g, 0)));
        noSuch(13, "no such context", with(NO_CONTEXT, "into group 0, context", (x, c) -> x.into(0, c)));
        noSuch(14, "no such place", with(NO_PLACE, "groupRing", (x, k) -> x.groupRing(k)));
        noSuch(15, "no such context", with(NO_CONTEXT, "groupOf", (x, c) -> x.groupOf(c)));
        noSuch(17, "no such version", withTwo(NO_VERSION, "differs", (x, v, w) -> x.differs(v, w, 0)));
        noSuch(17, "no such place", with(NO_PLACE, "differs 0, 1", (x, k) -> x.differs(0, 1, k)));
        noSuch(17, "no such place", with(NO_PLACE, "differs 1, 1", (x, k) -> x.differs(1, 1, k)));
        noSuch(18, "no such place", with(NO_WHAT, "count", (x, what) -> x.count(what)));
        noRoom(2, ExceptionEdgeTest::fullOfContexts, new Wrong("context", Dig::context));
        for (int kind = 0; kind <= 4; kind++) {
            int some = kind;
            noRoom(3, ExceptionEdgeTest::fullOfRelations,
                    new Wrong("relate of kind " + kind, x -> x.relate(6, 5, some)));
        }
        noRoom(12, ExceptionEdgeTest::fullOfGroups, new Wrong("group", Dig::group));
        noRoom(16, ExceptionEdgeTest::fullOfVersions, new Wrong("version", Dig::version));
        Expect.end();
    }

    private static void noSuch(int promise, String side, List<Wrong> all) {
        Expect.sentence("Promise " + promise, "IndexOutOfBoundsException", side, () -> {
            for (Wrong wrong : all) {
                Dig x = Dig.rich();
                Expect.noPlace(wrong.name(), () -> wrong.call().of(x));
                Expect.noPlace(wrong.name() + ", again", () -> wrong.call().of(x));
            }
        });
        Expect.sentence("Promise " + promise, "Such a call changes nothing", side, () -> {
            for (Wrong wrong : all) {
                Twins.changesNothing(wrong.name(), Dig::rich, x -> Expect.told(() -> wrong.call().of(x)));
            }
        });
    }

    private static void noRoom(int promise, Supplier<Dig> full, Wrong wrong) {
        Expect.sentence("Promise " + promise, "IllegalStateException as told", wrong.name(), () -> {
            Dig x = full.get();
            Expect.full(wrong.name(), () -> wrong.call().of(x));
            Expect.full(wrong.name() + ", again", () -> wrong.call().of(x));
        });
        Expect.sentence("Promise " + promise, "Such a call changes nothing", wrong.name(), () -> {
            Twins.changesNothing(wrong.name(), full, x -> Expect.told(() -> wrong.call().of(x)));
            Twins.changesNothing(wrong.name() + " twice", full, x -> {
                Expect.told(() -> wrong.call().of(x));
                Expect.told(() -> wrong.call().of(x));
            });
        });
    }

    private interface OfOne {
        Object of(Dig x, int value);
    }

    private interface OfTwo {
        Object of(Dig x, int first, int second);
    }

    private static List<Wrong> with(int[] values, String name, OfOne call) {
        List<Wrong> all = new ArrayList<>();
        for (int value : values) {
            all.add(new Wrong(name + " " + value, x -> call.of(x, value)));
        }
        return all;
    }

    /** A wrong value in the first place, in the second, in both. */
    private static List<Wrong> withTwo(int[] values, String name, OfTwo call) {
        List<Wrong> all = new ArrayList<>();
        for (int value : values) {
            all.add(new Wrong(name + " " + value + ", 0", x -> call.of(x, value, 0)));
            all.add(new Wrong(name + " 0, " + value, x -> call.of(x, 0, value)));
            all.add(new Wrong(name + " " + value + ", " + value, x -> call.of(x, value, value)));
        }
        return all;
    }

    private static List<Wrong> relateOfNoContext() {
        List<Wrong> all = new ArrayList<>();
        for (int kind = 0; kind <= 4; kind++) {
            int some = kind;
            all.addAll(withTwo(NO_CONTEXT, "relate of kind " + kind, (x, a, b) -> x.relate(a, b, some)));
        }
        return all;
    }

    /** Of a pair that could be related, and of one that would be a ring. */
    private static List<Wrong> relateOfNoKind() {
        List<Wrong> all = with(NO_KIND, "relate 6, 5 of kind", (x, kind) -> x.relate(6, 5, kind));
        all.addAll(with(NO_KIND, "relate 2, 0 of kind", (x, kind) -> x.relate(2, 0, kind)));
        return all;
    }

    private static Dig fullOfContexts() {
        Dig x = Dig.rich();
        x.contexts(7, 48);
        return x;
    }

    private static Dig fullOfGroups() {
        Dig x = Dig.rich();
        for (int g = 3; g < 12; g++) {
            Expect.same("group()", g, x.group());
        }
        return x;
    }

    private static Dig fullOfVersions() {
        Dig x = Dig.rich();
        for (int v = 2; v < 8; v++) {
            Expect.same("version()", v, x.version());
        }
        // What a ninth version would tell that the eighth does not.
        x.above(6, 0);
        return x;
    }

    private static Dig fullOfRelations() {
        Dig x = Dig.rich();
        for (int r = 6; r < 200; r++) {
            Expect.same("relate", r, x.relate(0, 1, Dig.ABOVE));
        }
        return x;
    }
}
