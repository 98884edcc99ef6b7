/**
 * The program under test with what tests ask of it. It counts the calls, since nothing is promised
 * after the 512th.
 */
final class Dig {
    static final int NONE = RelationOrder.NONE;
    static final int ABOVE = 0;
    static final int CUTS = 1;
    static final int FILLS = 2;
    static final int EQUAL = 3;
    static final int CONTEMPORARY = 4;
    static final int MOST_CALLS = 512;

    private final RelationOrder order = new RelationOrder();
    private int calls = 0;
    private int versions = 0;

    static Dig of(int contexts) {
        Dig x = new Dig();
        x.contexts(0, contexts);
        return x;
    }

    static Dig of(int contexts, int groups) {
        Dig x = of(contexts);
        for (int g = 0; g < groups; g++) {
            Expect.same("group()", g, x.group());
        }
        return x;
    }

    /**
     * Seven contexts with something of everything: 0 over 1, 2, 3 one behind the other, 4 joined with
     * 1, 5 contemporary with 0, relation 5 undone, a ring and a ring of groups told, two versions.
     */
    static Dig rich() {
        Dig x = of(7);
        x.told(0, 1, ABOVE);
        x.told(1, 2, CUTS);
        x.told(2, 3, FILLS);
        x.told(4, 1, EQUAL);
        x.told(5, 0, CONTEMPORARY);
        x.told(5, 3, ABOVE);
        x.version();
        x.undo(5);
        x.relate(3, 0, ABOVE);
        for (int g = 0; g < 3; g++) {
            x.group();
        }
        x.into(0, 0);
        x.into(1, 1);
        x.into(0, 2);
        x.into(2, 3);
        x.version();
        return x;
    }

    private RelationOrder face() {
        calls++;
        if (calls > MOST_CALLS) {
            Expect.report("the test makes more than 512 calls");
        }
        return order;
    }

    int calls() {
        return calls;
    }

    int context() {
        return face().context();
    }

    int relate(int a, int b, int kind) {
        return face().relate(a, b, kind);
    }

    int ring(int k) {
        return face().ring(k);
    }

    boolean undo(int relation) {
        return face().undo(relation);
    }

    int order(int a, int b) {
        return face().order(a, b);
    }

    int links() {
        return face().links();
    }

    int link(int k, int which) {
        return face().link(k, which);
    }

    int equal(int context) {
        return face().equal(context);
    }

    boolean contemporary(int a, int b) {
        return face().contemporary(a, b);
    }

    int longest(int context) {
        return face().longest(context);
    }

    int group() {
        return face().group();
    }

    boolean into(int group, int context) {
        return face().into(group, context);
    }

    int groupRing(int k) {
        return face().groupRing(k);
    }

    int groupOf(int context) {
        return face().groupOf(context);
    }

    int version() {
        int made = face().version();
        versions++;
        return made;
    }

    int differs(int one, int other, int k) {
        return face().differs(one, other, k);
    }

    int count(int what) {
        return face().count(what);
    }

    void contexts(int first, int behind) {
        for (int c = first; c < behind; c++) {
            Expect.same("context()", c, context());
        }
    }

    /** A relation that must be taken. */
    int told(int a, int b, int kind) {
        int number = relate(a, b, kind);
        Expect.yes("relate(" + a + ", " + b + ", " + kind + ") has a number", number >= 0);
        return number;
    }

    void above(int... pairs) {
        for (int i = 0; i < pairs.length; i += 2) {
            told(pairs[i], pairs[i + 1], ABOVE);
        }
    }

    /** Each context above the next one. */
    void chain(int first, int last) {
        for (int c = first; c < last; c++) {
            told(c, c + 1, ABOVE);
        }
    }

    /** A relation that must be refused, with the ring that it would close. */
    void refused(int a, int b, int kind, int... due) {
        String what = "relate(" + a + ", " + b + ", " + kind + ")";
        Expect.same(what, NONE, relate(a, b, kind));
        ringIs(what, due);
    }

    void ringIs(String what, int... due) {
        for (int k = 0; k < due.length; k++) {
            Expect.same(what + ": ring(" + k + ")", due[k], ring(k));
        }
        Expect.same(what + ": ring ends", NONE, ring(due.length));
    }

    void intoRefused(int group, int context, int... due) {
        String what = "into(" + group + ", " + context + ")";
        Expect.no(what, into(group, context));
        groupRingIs(what, due);
    }

    void groupRingIs(String what, int... due) {
        for (int k = 0; k < due.length; k++) {
            Expect.same(what + ": groupRing(" + k + ")", due[k], groupRing(k));
        }
        Expect.same(what + ": groupRing ends", NONE, groupRing(due.length));
    }

    /** The groups of the contexts 0, 1, .. */
    void homesAre(String what, int... due) {
        for (int c = 0; c < due.length; c++) {
            Expect.same(what + ": groupOf(" + c + ")", due[c], groupOf(c));
        }
    }

    /** The numbers of the contexts 0, 1, .. */
    void numbersAre(String what, int... due) {
        for (int c = 0; c < due.length; c++) {
            Expect.same(what + ": equal(" + c + ")", due[c], equal(c));
        }
    }

    /** Upper, lower, upper, lower, .. */
    void linksAre(String what, int... due) {
        Expect.same(what + ": links()", due.length / 2, links());
        for (int i = 0; i < due.length; i++) {
            int k = i / 2;
            int which = i % 2;
            Expect.same(what + ": link(" + k + ", " + which + ")", due[i], link(k, which));
        }
        Expect.noPlace(what + ": link behind the end", () -> link(due.length / 2, 0));
    }

    void differencesAre(String what, int one, int other, int... due) {
        for (int k = 0; k < due.length; k++) {
            Expect.same(what + ": differs " + k, due[k], differs(one, other, k));
            Expect.same(what + ": differs back " + k, due[k], differs(other, one, k));
        }
        Expect.same(what + ": differs ends", NONE, differs(one, other, due.length));
        Expect.same(what + ": differs back ends", NONE, differs(other, one, due.length));
    }

    void countsAre(String what, int... due) {
        for (int i = 0; i < due.length; i++) {
            Expect.same(what + ": count(" + i + ")", due[i], count(i));
        }
    }

    /** All that can be asked of the first contexts, but for the rings. */
    String tale(int contexts) {
        StringBuilder text = new StringBuilder("counts");
        for (int what = 0; what <= 4; what++) {
            text.append(' ').append(count(what));
        }
        for (int a = 0; a < contexts; a++) {
            text.append(", ").append(a).append(": ").append(equal(a)).append(' ').append(longest(a));
            text.append(' ').append(groupOf(a));
            for (int b = 0; b < a; b++) {
                text.append(' ').append(order(a, b)).append(contemporary(a, b) ? "c" : "");
            }
        }
        text.append(", links");
        int all = links();
        for (int k = 0; k < all; k++) {
            text.append(' ').append(link(k, 0)).append('/').append(link(k, 1));
        }
        for (int v = 0; v < versions; v++) {
            text.append(", differ");
            int got = 0;
            for (int k = 0; got != NONE && k <= contexts; k++) {
                got = differs(v, (v + 1) % versions, k);
                text.append(' ').append(got);
            }
        }
        return text.toString();
    }

    String ringTale() {
        StringBuilder text = new StringBuilder("ring");
        int got = 0;
        for (int k = 0; got != NONE && k <= 48; k++) {
            got = ring(k);
            text.append(' ').append(got);
        }
        return text.toString();
    }

    String groupRingTale() {
        StringBuilder text = new StringBuilder("groupRing");
        int got = 0;
        for (int k = 0; got != NONE && k <= 12; k++) {
            got = groupRing(k);
            text.append(' ').append(got);
        }
        return text.toString();
    }

    /** Goes on telling, which shows what numbers come next; then all is asked again. */
    String taleOfMore(int contexts) {
        String made = Expect.told(this::context) + ' ' + Expect.told(() -> relate(6, 5, ABOVE)) + ' '
                + Expect.told(this::group) + ' ' + Expect.told(this::version);
        return made + ", " + tale(contexts);
    }
}
