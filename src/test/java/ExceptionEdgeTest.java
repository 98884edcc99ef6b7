import java.util.function.Consumer;
import java.util.function.Supplier;

/** The document's "EXCEPTIONS": every call that there is nothing for, or no room, by itself. */
public final class ExceptionEdgeTest {
    // What there is not in Dig.rich(): it has contexts 0 .. 6, relations 0 .. 5, groups 0 .. 2,
    // versions 0 and 1, links 0 .. 2.
    private static final int[] NO_CONTEXT = {Integer.MIN_VALUE, -48, -1, 7, 8, 48, 64, Integer.MAX_VALUE};
    private static final int[] NO_RELATION = {Integer.MIN_VALUE, -1, 6, 200, Integer.MAX_VALUE};
    private static final int[] NO_KIND = {Integer.MIN_VALUE, -1, 5, Integer.MAX_VALUE};
    private static final int[] NO_GROUP = {Integer.MIN_VALUE, -1, 3, 11, 12, Integer.MAX_VALUE};
    private static final int[] NO_VERSION = {Integer.MIN_VALUE, -1, 2, 7, 8, Integer.MAX_VALUE};
    private static final int[] NO_PLACE = {Integer.MIN_VALUE, -2, -1};
    private static final int[] NO_LINK = {Integer.MIN_VALUE, -1, 3, 48, Integer.MAX_VALUE};
    private static final int[] NO_END = {Integer.MIN_VALUE, -1, 2, Integer.MAX_VALUE};
    private static final int[] NO_WHAT = {Integer.MIN_VALUE, -1, 5, Integer.MAX_VALUE};

    private interface Call {
        Object of(Dig x);
    }

    private record Wrong(String name, Call call) {
    }

    private ExceptionEdgeTest() {
    }

    public static void main(String[] args) {
        Expect.sentence("Terms, all promises", "there is no such context, relation, kind, group, version, place",
                ExceptionEdgeTest::whatIsNotThereThrows);
        Expect.sentence("Terms, all promises", "Such a call changes nothing: IndexOutOfBoundsException",
                ExceptionEdgeTest::whatIsNotThereChangesNothing);
        Expect.sentence("Terms, all promises", "Such a call changes nothing: IllegalStateException",
                ExceptionEdgeTest::whatIsFullChangesNothing);
        Expect.end();
    }

    /** All wrong calls of Dig.rich(), one by one. */
    private static void wrongCalls(Consumer<Wrong> each) {
        for (int c : NO_CONTEXT) {
            for (int kind = 0; kind <= 4; kind++) {
                int some = kind;
                each.accept(new Wrong("relate a " + c + ", " + kind, x -> x.relate(c, 0, some)));
                each.accept(new Wrong("relate b " + c + ", " + kind, x -> x.relate(3, c, some)));
            }
            each.accept(new Wrong("relate both " + c, x -> x.relate(c, c, Dig.ABOVE)));
            each.accept(new Wrong("order a " + c, x -> x.order(c, 0)));
            each.accept(new Wrong("order b " + c, x -> x.order(0, c)));
            each.accept(new Wrong("order both " + c, x -> x.order(c, c)));
            each.accept(new Wrong("equal " + c, x -> x.equal(c)));
            each.accept(new Wrong("contemporary a " + c, x -> x.contemporary(c, 0)));
            each.accept(new Wrong("contemporary b " + c, x -> x.contemporary(0, c)));
            each.accept(new Wrong("contemporary both " + c, x -> x.contemporary(c, c)));
            each.accept(new Wrong("longest " + c, x -> x.longest(c)));
            each.accept(new Wrong("into context " + c, x -> x.into(0, c)));
            each.accept(new Wrong("groupOf " + c, x -> x.groupOf(c)));
        }
        for (int kind : NO_KIND) {
            each.accept(new Wrong("relate kind " + kind, x -> x.relate(6, 5, kind)));
            each.accept(new Wrong("relate kind " + kind + " of a ring", x -> x.relate(2, 0, kind)));
        }
        for (int r : NO_RELATION) {
            each.accept(new Wrong("undo " + r, x -> x.undo(r)));
        }
        for (int g : NO_GROUP) {
            each.accept(new Wrong("into group " + g, x -> x.into(g, 0)));
            each.accept(new Wrong("into group " + g + ", context " + g, x -> x.into(g, g)));
        }
        for (int v : NO_VERSION) {
            each.accept(new Wrong("differs one " + v, x -> x.differs(v, 0, 0)));
            each.accept(new Wrong("differs other " + v, x -> x.differs(0, v, 0)));
            each.accept(new Wrong("differs both " + v, x -> x.differs(v, v, 0)));
        }
        wrongPlaces(each);
    }

    private static void wrongPlaces(Consumer<Wrong> each) {
        for (int k : NO_PLACE) {
            each.accept(new Wrong("ring " + k, x -> x.ring(k)));
            each.accept(new Wrong("groupRing " + k, x -> x.groupRing(k)));
            each.accept(new Wrong("differs k " + k, x -> x.differs(0, 1, k)));
            each.accept(new Wrong("differs of the same k " + k, x -> x.differs(1, 1, k)));
        }
        for (int k : NO_LINK) {
            each.accept(new Wrong("link " + k + ", 0", x -> x.link(k, 0)));
            each.accept(new Wrong("link " + k + ", 1", x -> x.link(k, 1)));
        }
        for (int end : NO_END) {
            each.accept(new Wrong("link 0, " + end, x -> x.link(0, end)));
            each.accept(new Wrong("link 3, " + end, x -> x.link(3, end)));
        }
        for (int what : NO_WHAT) {
            each.accept(new Wrong("count " + what, x -> x.count(what)));
        }
    }

    private static void whatIsNotThereThrows() {
        wrongCalls(wrong -> {
            Dig x = Dig.rich();
            Expect.noPlace(wrong.name(), () -> wrong.call().of(x));
            Expect.noPlace(wrong.name() + ", again", () -> wrong.call().of(x));
        });
    }

    private static void whatIsNotThereChangesNothing() {
        wrongCalls(wrong -> Twins.changesNothing(wrong.name(), Dig::rich,
                x -> Expect.told(() -> wrong.call().of(x))));
    }

    private static void whatIsFullChangesNothing() {
        changesNothing("context()", ExceptionEdgeTest::fullOfContexts, Dig::context);
        changesNothing("group()", ExceptionEdgeTest::fullOfGroups, Dig::group);
        changesNothing("version()", ExceptionEdgeTest::fullOfVersions, Dig::version);
        for (int kind = 0; kind <= 4; kind++) {
            int some = kind;
            changesNothing("relate(6, 5, " + kind + ")", ExceptionEdgeTest::fullOfRelations,
                    x -> x.relate(6, 5, some));
        }
    }

    private static void changesNothing(String what, Supplier<Dig> made, Call call) {
        Twins.changesNothing(what, made, x -> Expect.full(what, () -> call.of(x)));
        Twins.changesNothing(what + " twice", made, x -> {
            Expect.full(what, () -> call.of(x));
            Expect.full(what + " again", () -> call.of(x));
        });
    }

    private static Dig fullOfContexts() {
        Dig x = Dig.rich();
        x.contexts(7, 48);
        return x;
    }

    private static Dig fullOfGroups() {
        Dig x = Dig.rich();
        for (int g = 3; g < 12; g++) {
            Expect.same("group()", g, x.group());
        }
        return x;
    }

    private static Dig fullOfVersions() {
        Dig x = Dig.rich();
        for (int v = 2; v < 8; v++) {
            Expect.same("version()", v, x.version());
        }
        x.above(6, 0);
        return x;
    }

    private static Dig fullOfRelations() {
        Dig x = Dig.rich();
        for (int r = 6; r < 200; r++) {
            Expect.same("relate", r, x.relate(0, 1, Dig.ABOVE));
        }
        return x;
    }
}
