/** Each promise of the document: ordinary inputs, the edges it names, wrong inputs. */
public final class PromiseTest {
    private static final int NONE = Dig.NONE;
    private static final int ABOVE = Dig.ABOVE;
    private static final int CUTS = Dig.CUTS;
    private static final int FILLS = Dig.FILLS;
    private static final int EQUAL = Dig.EQUAL;
    private static final int CONTEMPORARY = Dig.CONTEMPORARY;
    private static final int[] FAR = {Integer.MIN_VALUE, -1, Integer.MAX_VALUE};

    private PromiseTest() {
    }

    public static void main(String[] args) {
        promise1NewObject();
        promise2Context();
        promise3Relate();
        promise3RelateWrong();
        promise3RelateLimit();
        promise4Ring();
        promise4RingEqual();
        promise5Undo();
        promise6Order();
        promises7And8Links();
        promise9Equal();
        promise10Contemporary();
        promise11Longest();
        promise12Group();
        promise13Into();
        promise13IntoWithoutMoving();
        promise14GroupRing();
        promise15GroupOf();
        promise16Version();
        promise17Differs();
        promise17DiffersByOrder();
        promise18Count();
        Expect.end();
    }

    private static void promise1NewObject() {
        Dig x = new Dig();
        for (int what = 0; what <= 4; what++) {
            Expect.same("new: count(" + what + ")", 0, x.count(what));
        }
        Expect.same("new: links()", 0, x.links());
        Expect.same("new: ring(0)", NONE, x.ring(0));
        Expect.same("new: groupRing(0)", NONE, x.groupRing(0));
        Expect.noPlace("new: link", () -> x.link(0, 0));
        Expect.noPlace("new: equal", () -> x.equal(0));
        Expect.noPlace("new: undo", () -> x.undo(0));
        Expect.noPlace("new: differs", () -> x.differs(0, 0, 0));
        Dig.of(3);
        Expect.same("new: another object's contexts are not this one's", 0, x.count(0));
    }

    private static void promise2Context() {
        Dig x = Dig.of(48);
        Expect.full("context 48", x::context);
        Expect.full("context 48 again", x::context);
        Expect.same("count of contexts", 48, x.count(0));
        x.above(47, 0);
        Expect.same("the last one orders", 1, x.order(47, 0));
        Dig late = Dig.of(2);
        late.relate(0, 1, EQUAL);
        Expect.same("a later context", 2, late.context());
        Expect.same("a later context is its own", 2, late.equal(2));
        Expect.same("a later context changes no order", 0, late.order(0, 2));
        Expect.same("joined ones", 2, late.count(2));
    }

    private static void promise3Relate() {
        Dig x = Dig.of(8);
        Expect.same("above", 0, x.relate(0, 1, ABOVE));
        Expect.same("cuts", 1, x.relate(1, 2, CUTS));
        Expect.same("fills", 2, x.relate(2, 3, FILLS));
        Expect.same("each kind orders", 1, x.order(0, 3));
        Expect.same("contemporary", 3, x.relate(3, 0, CONTEMPORARY));
        Expect.same("contemporary of one", 4, x.relate(3, 3, CONTEMPORARY));
        Expect.same("contemporary orders nothing", 0, x.order(4, 4));
        Expect.same("the same again", 5, x.relate(0, 1, ABOVE));
        Expect.same("ring by above", NONE, x.relate(3, 0, ABOVE));
        Expect.same("ring by cuts", NONE, x.relate(1, 0, CUTS));
        Expect.same("ring by fills", NONE, x.relate(2, 2, FILLS));
        Expect.same("ring by equal", NONE, x.relate(0, 3, EQUAL));
        Expect.same("a ring takes no number", 6, x.relate(4, 5, EQUAL));
        Expect.same("equal to itself", 7, x.relate(6, 6, EQUAL));
        Expect.same("equal again", 8, x.relate(5, 4, EQUAL));
        Expect.same("above of joined ones", NONE, x.relate(5, 4, ABOVE));
        x.ringIs("joined with it", 4);
        Expect.same("relations that count", 9, x.count(1));
        Expect.same("a refused one orders nothing", 1, x.order(0, 3));
        Expect.same("a refused one joins nothing", 3, x.equal(3));
        Expect.same("ring by joined ones", 9, x.relate(3, 5, ABOVE));
        Expect.same("ring by joined ones, back", NONE, x.relate(4, 0, ABOVE));
        x.ringIs("joined ones", 4, 0, 1, 2, 3);
    }

    private static void promise3RelateWrong() {
        Dig x = Dig.of(4);
        x.above(0, 1);
        x.relate(1, 0, ABOVE);
        for (int far : new int[] {Integer.MIN_VALUE, -1, 4, 48, Integer.MAX_VALUE}) {
            Expect.noPlace("relate a " + far, () -> x.relate(far, 2, ABOVE));
            Expect.noPlace("relate b " + far, () -> x.relate(2, far, ABOVE));
            Expect.noPlace("relate both " + far, () -> x.relate(far, far, EQUAL));
        }
        for (int kind : new int[] {Integer.MIN_VALUE, -1, 5, Integer.MAX_VALUE}) {
            Expect.noPlace("relate kind " + kind, () -> x.relate(1, 0, kind));
        }
        x.ringIs("a wrong call tells no ring", 1, 0);
        Expect.same("a wrong call makes no relation", 1, x.count(1));
        Expect.same("nor takes a number", 1, x.relate(2, 3, ABOVE));
    }

    private static void promise3RelateLimit() {
        Dig x = Dig.of(3);
        for (int i = 0; i < 199; i++) {
            Expect.same("relate", i, x.relate(0, 1, ABOVE));
        }
        Expect.same("a ring before the last one", NONE, x.relate(1, 0, ABOVE));
        Expect.yes("undo", x.undo(7));
        Expect.same("the last one", 199, x.relate(1, 2, CUTS));
        Expect.full("relation 200", () -> x.relate(0, 2, CONTEMPORARY));
        Expect.full("relation 200, though a ring", () -> x.relate(2, 0, ABOVE));
        x.ringIs("a full object tells no ring", 1, 0);
        Expect.noPlace("a wrong context though full", () -> x.relate(0, 3, ABOVE));
        Expect.same("relations that count", 199, x.count(1));
        Expect.yes("undo the last", x.undo(199));
        Expect.full("undone ones keep their number", () -> x.relate(1, 2, CUTS));
        Expect.noPlace("no relation 200", () -> x.undo(200));
        Expect.same("the order stands", 1, x.order(0, 1));
        Expect.same("the undone does not", 0, x.order(1, 2));
    }

    private static void promise4Ring() {
        Dig x = Dig.of(10);
        // Three ways from 0 to 9: two of four steps, one of five that begins lower.
        x.above(0, 1, 1, 2, 2, 3, 3, 4, 4, 9, 0, 7, 7, 5, 5, 6, 6, 9, 7, 8, 8, 6);
        x.relate(9, 0, ABOVE);
        x.ringIs("the shortest, then the lowest", 9, 0, 7, 5, 6);
        x.above(3, 9);
        x.relate(9, 0, ABOVE);
        x.ringIs("the lower where they differ first", 9, 0, 1, 2, 3);
        x.above(0, 6);
        x.relate(9, 0, FILLS);
        x.ringIs("a shorter one with higher numbers", 9, 0, 6);
        x.relate(6, 0, ABOVE);
        x.ringIs("the latest", 6, 0);
        Expect.same("far behind the end", NONE, x.ring(Integer.MAX_VALUE));
        x.relate(8, 8, ABOVE);
        x.ringIs("one alone leaves nothing of the earlier", 8);
        x.relate(0, 8, EQUAL);
        x.ringIs("equal", 0, 7, 8);
        x.relate(0, 9, ABOVE);
        x.undo(0);
        x.ringIs("stays when others are related or undone", 0, 7, 8);
        for (int k : new int[] {-1, Integer.MIN_VALUE}) {
            Expect.noPlace("ring(" + k + ")", () -> x.ring(k));
        }
        Dig chain = Dig.of(48);
        for (int i = 47; i > 0; i--) {
            chain.above(i, i - 1);
        }
        Expect.same("the longest ring", NONE, chain.relate(0, 47, CUTS));
        Expect.same("its first", 0, chain.ring(0));
        for (int k = 1; k < 48; k++) {
            Expect.same("its place " + k, 48 - k, chain.ring(k));
        }
        Expect.same("its end", NONE, chain.ring(48));
    }

    private static void promise4RingEqual() {
        Dig x = Dig.of(7);
        x.above(4, 3, 3, 2, 4, 5, 5, 2);
        Expect.same("upper first", NONE, x.relate(4, 2, EQUAL));
        x.ringIs("from the upper one on", 4, 3, 2);
        Expect.same("right above", NONE, x.relate(3, 2, EQUAL));
        x.ringIs("two", 3, 2);
        Expect.same("lower first", NONE, x.relate(2, 4, EQUAL));
        x.ringIs("from the upper one on as well", 4, 3, 2);
        x.relate(1, 4, EQUAL);
        x.relate(0, 2, EQUAL);
        Expect.same("by joined ones", NONE, x.relate(2, 4, EQUAL));
        x.ringIs("by numbers", 1, 3, 0);
        Expect.same("above by joined ones", NONE, x.relate(2, 4, ABOVE));
        x.ringIs("from a's number on", 0, 1, 3);
        Expect.same("equal of joined ones is no ring", 6, x.relate(4, 1, EQUAL));
        x.ringIs("and tells none", 0, 1, 3);
    }

    private static void promise5Undo() {
        Dig x = Dig.of(5);
        x.above(0, 1, 1, 2);
        x.relate(3, 1, EQUAL);
        x.relate(0, 4, CONTEMPORARY);
        x.relate(0, 1, CUTS);
        Expect.yes("undo", x.undo(0));
        Expect.same("another one tells the same", 1, x.order(0, 1));
        Expect.yes("undo that too", x.undo(4));
        Expect.same("now nothing does", 0, x.order(0, 1));
        Expect.no("undo again", x.undo(0));
        Expect.yes("undo equal", x.undo(2));
        Expect.same("split", 3, x.equal(3));
        Expect.same("the order of the other is gone", 0, x.order(3, 2));
        Expect.yes("contemporary before", x.contemporary(4, 0));
        Expect.yes("undo contemporary", x.undo(3));
        Expect.no("contemporary after", x.contemporary(4, 0));
        Expect.same("no ring any more", 5, x.relate(1, 0, ABOVE));
        for (int r : new int[] {Integer.MIN_VALUE, -1, 6, 200, Integer.MAX_VALUE}) {
            Expect.noPlace("undo(" + r + ")", () -> x.undo(r));
        }
        Expect.same("relations that count", 2, x.count(1));
        x.group();
        x.into(0, 3);
        x.undo(1);
        Expect.same("groups stay", 0, x.groupOf(3));
    }

    private static void promise6Order() {
        Dig x = Dig.of(6);
        x.above(5, 3, 3, 1);
        x.relate(1, 4, EQUAL);
        x.above(4, 0);
        Expect.same("over", 1, x.order(5, 1));
        Expect.same("under", -1, x.order(1, 5));
        Expect.same("over by joined ones", 1, x.order(5, 0));
        Expect.same("under by joined ones", -1, x.order(4, 3));
        Expect.same("joined ones", 0, x.order(1, 4));
        Expect.same("one with itself", 0, x.order(5, 5));
        Expect.same("neither", 0, x.order(2, 5));
        for (int far : new int[] {-1, 6, 48, Integer.MIN_VALUE, Integer.MAX_VALUE}) {
            Expect.noPlace("order a " + far, () -> x.order(far, 0));
            Expect.noPlace("order b " + far, () -> x.order(0, far));
        }
    }

    private static void promises7And8Links() {
        Dig x = Dig.of(7);
        x.linksAre("none");
        x.above(5, 1, 1, 3, 5, 3, 1, 0, 5, 0);
        x.linksAre("what lies between", 1, 0, 1, 3, 5, 1);
        x.relate(3, 2, EQUAL);
        x.linksAre("by numbers of joined ones", 1, 0, 1, 2, 5, 1);
        x.above(4, 3, 6, 3, 0, 6);
        x.linksAre("through what came later", 0, 6, 1, 0, 4, 2, 5, 1, 6, 2);
        x.undo(0);
        x.linksAre("undone", 0, 6, 1, 0, 4, 2, 5, 0, 6, 2);
        for (int far : FAR) {
            Expect.noPlace("link k " + far, () -> x.link(far, 0));
            Expect.noPlace("link which " + far, () -> x.link(0, far));
        }
        Expect.noPlace("link which 2", () -> x.link(0, 2));
        Expect.noPlace("link 5", () -> x.link(5, 1));
        Dig wide = Dig.of(48);
        for (int i = 0; i < 12; i++) {
            for (int j = 36; j < 48; j++) {
                wide.above(i, j);
            }
        }
        Expect.same("wide links", 144, wide.links());
        Expect.same("wide last upper", 11, wide.link(143, 0));
        Expect.same("wide last lower", 47, wide.link(143, 1));
    }

    private static void promise9Equal() {
        Dig x = Dig.of(8);
        x.relate(7, 5, EQUAL);
        x.relate(3, 4, EQUAL);
        Expect.same("least of two", 5, x.equal(7));
        x.relate(4, 7, EQUAL);
        for (int c : new int[] {3, 4, 5, 7}) {
            Expect.same("also by others " + c, 3, x.equal(c));
        }
        Expect.same("alone", 6, x.equal(6));
        x.relate(0, 3, EQUAL);
        x.undo(1);
        Expect.same("the part with 3", 0, x.equal(3));
        Expect.same("the part without it", 4, x.equal(7));
        x.relate(0, 6, CONTEMPORARY);
        Expect.same("contemporary joins nothing", 6, x.equal(6));
        for (int far : new int[] {-1, 8, 48, Integer.MIN_VALUE, Integer.MAX_VALUE}) {
            Expect.noPlace("equal " + far, () -> x.equal(far));
        }
    }

    private static void promise10Contemporary() {
        Dig x = Dig.of(8);
        x.relate(0, 1, CONTEMPORARY);
        x.relate(1, 2, CONTEMPORARY);
        Expect.yes("as told", x.contemporary(0, 1));
        Expect.yes("the other way", x.contemporary(1, 0));
        Expect.no("not by others", x.contemporary(0, 2));
        x.relate(3, 0, EQUAL);
        x.relate(1, 4, EQUAL);
        Expect.yes("by joined ones", x.contemporary(3, 4));
        Expect.yes("by joined ones the other way", x.contemporary(4, 3));
        Expect.yes("joined", x.contemporary(0, 3));
        Expect.yes("itself", x.contemporary(5, 5));
        Expect.no("not told", x.contemporary(5, 6));
        x.above(5, 6);
        Expect.no("in order, not told", x.contemporary(5, 6));
        x.relate(5, 6, CONTEMPORARY);
        Expect.yes("in order and told", x.contemporary(6, 5));
        x.undo(2);
        Expect.no("split", x.contemporary(3, 4));
        x.undo(0);
        Expect.no("undone", x.contemporary(0, 1));
        Expect.yes("the other stays", x.contemporary(4, 2));
        for (int far : new int[] {-1, 8, 48, Integer.MIN_VALUE, Integer.MAX_VALUE}) {
            Expect.noPlace("contemporary a " + far, () -> x.contemporary(far, 0));
            Expect.noPlace("contemporary b " + far, () -> x.contemporary(0, far));
        }
    }

    private static void promise11Longest() {
        Dig x = Dig.of(9);
        x.above(0, 1, 0, 2, 2, 3, 3, 1, 4, 1);
        Expect.same("top", 0, x.longest(0));
        Expect.same("the longest way", 3, x.longest(1));
        Expect.same("in the middle", 2, x.longest(3));
        Expect.same("alone", 0, x.longest(8));
        x.relate(1, 7, EQUAL);
        Expect.same("by joined one", 3, x.longest(7));
        x.relate(5, 2, EQUAL);
        x.above(6, 5, 8, 6);
        Expect.same("through joined ones", 4, x.longest(7));
        Expect.same("how many above 2", 2, x.longest(2));
        x.undo(2);
        Expect.same("undone", 0, x.longest(3));
        Expect.same("the way that is left", 1, x.longest(7));
        for (int far : new int[] {-1, 9, 48, Integer.MIN_VALUE, Integer.MAX_VALUE}) {
            Expect.noPlace("longest " + far, () -> x.longest(far));
        }
        Dig chain = Dig.of(48);
        for (int i = 0; i < 47; i++) {
            chain.above(i, i + 1);
        }
        Expect.same("the longest of all", 47, chain.longest(47));
    }

    private static void promise12Group() {
        Dig x = new Dig();
        for (int g = 0; g < 12; g++) {
            Expect.same("group()", g, x.group());
        }
        Expect.full("group 12", x::group);
        Expect.full("group 12 again", x::group);
        Expect.same("count of groups", 12, x.count(4));
        x.context();
        Expect.yes("the last group", x.into(11, 0));
        Expect.same("its context", 11, x.groupOf(0));
    }

    private static void promise13Into() {
        Dig x = Dig.of(7, 4);
        x.above(0, 1, 1, 2, 2, 3);
        Expect.yes("first", x.into(0, 0));
        Expect.yes("second", x.into(1, 1));
        Expect.no("a ring", x.into(0, 2));
        x.groupRingIs("from the one asked for on", 0, 1);
        Expect.same("nothing changes", NONE, x.groupOf(2));
        Expect.yes("order inside a group is no ring", x.into(1, 2));
        Expect.yes("again into its own", x.into(1, 2));
        Expect.no("out of a group into a ring", x.into(0, 2));
        Expect.same("it stays where it was", 1, x.groupOf(2));
        Expect.yes("the move ends what was in the way", x.into(2, 1) && x.into(0, 1));
        x.relate(4, 3, EQUAL);
        Expect.no("by joined ones", x.into(0, 4));
        Expect.yes("joined ones in two groups", x.into(2, 4) && x.into(3, 3));
        for (int far : new int[] {-1, 4, 12, Integer.MIN_VALUE, Integer.MAX_VALUE}) {
            Expect.noPlace("into group " + far, () -> x.into(far, 0));
        }
        for (int far : new int[] {-1, 7, 48, Integer.MIN_VALUE, Integer.MAX_VALUE}) {
            Expect.noPlace("into context " + far, () -> x.into(0, far));
        }
        Expect.same("a wrong call moves nothing", 0, x.groupOf(0));
    }

    private static void promise13IntoWithoutMoving() {
        Dig x = Dig.of(7, 4);
        x.into(0, 0);
        x.into(0, 1);
        x.into(1, 2);
        x.into(1, 3);
        x.above(0, 2, 3, 1);
        Expect.no("a ring that relate made", x.into(1, 5));
        x.groupRingIs("relate's ring", 1, 0);
        Expect.no("even where it is already", x.into(0, 1));
        x.groupRingIs("where it is", 0, 1);
        Expect.same("and it stays there", 0, x.groupOf(1));
        Expect.yes("a ring of other groups does not matter", x.into(2, 5));
        Expect.yes("the move out ends the ring", x.into(3, 3));
        Expect.yes("so there is none", x.into(1, 6));
        x.groupRingIs("the latest stays", 0, 1);
    }

    private static void promise14GroupRing() {
        Dig x = Dig.of(12, 6);
        for (int g = 0; g < 5; g++) {
            x.into(g, 2 * g);
        }
        x.into(1, 3);
        x.into(2, 5);
        x.into(3, 7);
        // Group 0 over 2 and 1, both over 3, 3 over 4: two ways of equal length.
        x.above(0, 4, 0, 2, 3, 6, 5, 6, 7, 8);
        Expect.same("no ring yet", NONE, x.groupRing(0));
        x.above(9, 1);
        x.into(0, 1);
        Expect.no("a ring of four", x.into(4, 9));
        x.groupRingIs("lower where they differ first", 4, 0, 1, 3);
        x.above(2, 10);
        x.into(2, 11);
        x.above(11, 8);
        Expect.no("a shorter ring", x.into(4, 9));
        x.groupRingIs("the shortest, though higher", 4, 0, 2);
        Expect.same("far behind", NONE, x.groupRing(Integer.MAX_VALUE));
        Expect.yes("a move that may be", x.into(5, 9));
        x.groupRingIs("stays", 4, 0, 2);
        Expect.same("relate's rings are others", NONE, x.ring(0));
        x.relate(4, 0, ABOVE);
        x.groupRingIs("relate tells none of groups", 4, 0, 2);
        for (int k : new int[] {-1, Integer.MIN_VALUE}) {
            Expect.noPlace("groupRing(" + k + ")", () -> x.groupRing(k));
        }
        Dig all = Dig.of(24, 12);
        for (int g = 0; g < 12; g++) {
            all.into(g, 2 * g);
            all.into(g, 2 * g + 1);
        }
        for (int g = 0; g < 12; g++) {
            all.above(2 * g, 2 * ((g + 1) % 12) + 1);
        }
        Expect.no("all in a ring", all.into(7, 14));
        all.groupRingIs("all", 7, 8, 9, 10, 11, 0, 1, 2, 3, 4, 5, 6);
    }

    private static void promise15GroupOf() {
        Dig x = Dig.of(3, 2);
        Expect.same("none", NONE, x.groupOf(0));
        x.into(1, 0);
        Expect.same("in one", 1, x.groupOf(0));
        x.into(0, 0);
        Expect.same("in another", 0, x.groupOf(0));
        x.relate(0, 1, EQUAL);
        Expect.same("a joined one is not taken along", NONE, x.groupOf(1));
        for (int far : new int[] {-1, 3, 48, Integer.MIN_VALUE, Integer.MAX_VALUE}) {
            Expect.noPlace("groupOf " + far, () -> x.groupOf(far));
        }
    }

    private static void promise16Version() {
        Dig x = new Dig();
        for (int v = 0; v < 8; v++) {
            Expect.same("version()", v, x.version());
            x.context();
        }
        Expect.full("version 8", x::version);
        Expect.full("version 8 again", x::version);
        x.differencesAre("first and last", 0, 7, 0, 1, 2, 3, 4, 5, 6);
        x.differencesAre("a full call changed nothing", 6, 7, 6);
    }

    private static void promise17Differs() {
        Dig x = Dig.of(6);
        x.above(0, 1, 1, 2);
        x.version();
        x.version();
        x.differencesAre("the same", 0, 1);
        x.differencesAre("one version", 1, 1);
        x.context();
        x.version();
        x.differencesAre("a later context", 0, 2, 6);
        x.relate(3, 4, EQUAL);
        x.version();
        x.differencesAre("joined: only whose number is another", 2, 3, 4);
        x.relate(2, 5, EQUAL);
        x.version();
        x.differencesAre("all of a joined one lie under those above", 3, 4, 0, 1, 5);
        x.relate(3, 5, CONTEMPORARY);
        x.group();
        x.into(0, 3);
        x.version();
        x.differencesAre("contemporary and groups tell no order", 4, 5);
        x.above(0, 2);
        x.version();
        x.differencesAre("nothing new by it", 5, 6);
        x.undo(1);
        x.version();
        x.differencesAre("between undone", 6, 7, 1, 2, 5);
        for (int far : new int[] {-1, 8, Integer.MIN_VALUE, Integer.MAX_VALUE}) {
            Expect.noPlace("differs one " + far, () -> x.differs(far, 0, 0));
            Expect.noPlace("differs other " + far, () -> x.differs(0, far, 0));
        }
        Expect.noPlace("differs k -1", () -> x.differs(0, 1, -1));
        Expect.noPlace("differs k least", () -> x.differs(0, 1, Integer.MIN_VALUE));
        Dig few = Dig.of(1);
        few.version();
        Expect.noPlace("no version 1 yet", () -> few.differs(0, 1, 0));
    }

    private static void promise17DiffersByOrder() {
        Dig x = Dig.of(5);
        x.version();
        x.above(2, 4);
        x.version();
        x.differencesAre("upper and lower", 0, 1, 2, 4);
        x.undo(0);
        x.version();
        x.differencesAre("undone is as before", 0, 2);
        x.above(4, 2);
        x.version();
        x.differencesAre("the other way round", 1, 3, 2, 4);
        x.context();
        x.above(5, 0);
        x.version();
        x.differencesAre("a later one above", 3, 4, 0, 5);
        Dig all = Dig.of(48);
        all.version();
        all.above(0, 47);
        all.version();
        all.differencesAre("the last context too", 0, 1, 0, 47);
    }

    private static void promise18Count() {
        Dig x = Dig.of(6, 3);
        x.above(0, 1, 1, 2, 0, 3);
        x.relate(3, 4, EQUAL);
        x.relate(4, 5, CONTEMPORARY);
        Expect.same("contexts", 6, x.count(0));
        Expect.same("relations", 5, x.count(1));
        Expect.same("joined ones", 5, x.count(2));
        Expect.same("pairs", 4, x.count(3));
        Expect.same("groups", 3, x.count(4));
        x.undo(1);
        x.undo(1);
        x.relate(1, 0, ABOVE);
        Expect.same("relations that count", 4, x.count(1));
        Expect.same("pairs that are left", 2, x.count(3));
        x.undo(3);
        Expect.same("joined ones split", 6, x.count(2));
        for (int what : new int[] {Integer.MIN_VALUE, -1, 5, Integer.MAX_VALUE}) {
            Expect.noPlace("count(" + what + ")", () -> x.count(what));
        }
    }
}
