import java.util.function.Consumer;
import java.util.function.Supplier;

/** Two digs that were told the same; one of them gets a call that must change nothing. */
final class Twins {
    private static final int ASKED = 7;

    private Twins() {
    }

    static void changesNothing(String what, Supplier<Dig> made, Consumer<Dig> call) {
        Dig twin = made.get();
        Dig touched = made.get();
        call.accept(touched);
        Expect.sameText(what + ": the ring", twin.ringTale(), touched.ringTale());
        Expect.sameText(what + ": the ring of groups", twin.groupRingTale(), touched.groupRingTale());
        compare(what, twin, touched);
    }

    /** For a refused relate(), whose ring is told. */
    static void changesRingAlone(String what, Supplier<Dig> made, Consumer<Dig> call) {
        Dig twin = made.get();
        Dig touched = made.get();
        call.accept(touched);
        Expect.sameText(what + ": the ring of groups", twin.groupRingTale(), touched.groupRingTale());
        compare(what, twin, touched);
    }

    /** For a refused into(), whose ring of groups is told. */
    static void changesGroupRingAlone(String what, Supplier<Dig> made, Consumer<Dig> call) {
        Dig twin = made.get();
        Dig touched = made.get();
        call.accept(touched);
        Expect.sameText(what + ": the ring", twin.ringTale(), touched.ringTale());
        compare(what, twin, touched);
    }

    private static void compare(String what, Dig twin, Dig touched) {
        Expect.sameText(what + ": all else", twin.tale(ASKED), touched.tale(ASKED));
        Expect.sameText(what + ": what comes next", twin.taleOfMore(ASKED), touched.taleOfMore(ASKED));
    }
}
