/** The edges that the promises 1 to 5 name, sentence by sentence: contexts, relations, rings, undoing. */
public final class TellingEdgeTest {
    private static final int NONE = Dig.NONE;
    private static final int ABOVE = Dig.ABOVE;
    private static final int CUTS = Dig.CUTS;
    private static final int FILLS = Dig.FILLS;
    private static final int EQUAL = Dig.EQUAL;
    private static final int CONTEMPORARY = Dig.CONTEMPORARY;
    private static final int[] ORDERING = {ABOVE, CUTS, FILLS};
    private static final int[] ALL_KINDS = {ABOVE, CUTS, FILLS, EQUAL, CONTEMPORARY};

    private TellingEdgeTest() {
    }

    public static void main(String[] args) {
        Expect.sentence("Promise 1", "No contexts", TellingEdgeTest::aNewObjectIsEmpty);
        Expect.sentence("Promise 1", "No contexts", "nothing can be told of them",
                TellingEdgeTest::aNewObjectHasNothingToAskFor);
        Expect.sentence("Promise 1", "A new object", TellingEdgeTest::objectsShareNothing);
        Expect.sentence("Promise 2", "A context: its number", TellingEdgeTest::contextsAreNumberedOn);
        Expect.sentence("Promise 2", "A context: its number", "nothing is told of it yet",
                TellingEdgeTest::aNewContextIsAlone);
        Expect.sentence("Promise 2", "IllegalStateException: there are 48", TellingEdgeTest::thereAre48);
        Expect.sentence("Promise 3", "A relation: its number", TellingEdgeTest::relationsAreNumberedOn);
        Expect.sentence("Promise 3", "NONE, if there would be a ring", TellingEdgeTest::ringsAreRefused);
        Expect.sentence("Promise 3", "NONE, if there would be a ring", "for EQUAL",
                TellingEdgeTest::ringsByEqualAreRefused);
        Expect.sentence("Promise 3", "NONE, if there would be a ring", "else not",
                TellingEdgeTest::whatIsNoRingIsTaken);
        Expect.sentence("Promise 3", "nothing changes, but that this ring is told",
                TellingEdgeTest::refusedRelationsChangeNothing);
        Expect.sentence("Promise 3", "if the one that is over the other one were also right below it",
                TellingEdgeTest::equalTellsTheShortestWayDown);
        Expect.sentence("Promise 3", "from the upper one's number on",
                TellingEdgeTest::equalBeginsAtTheUpper);
        Expect.sentence("Promise 3", "else from a's on", TellingEdgeTest::othersBeginAtA);
        Expect.sentence("Promise 3", "IndexOutOfBoundsException", TellingEdgeTest::relateOfNothing);
        Expect.sentence("Promise 3", "IllegalStateException: there were 200",
                TellingEdgeTest::thereWere200);
        Expect.sentence("Promise 4", "the ring that was told latest by relate()",
                TellingEdgeTest::theLatestRing);
        Expect.sentence("Promise 4", "the ring that was told latest by relate()", "it stays",
                TellingEdgeTest::aToldRingStays);
        Expect.sentence("Promise 4", "NONE behind its end", TellingEdgeTest::noneBehindARingsEnd);
        Expect.sentence("Promise 4", "NONE behind its end", "no ring was told",
                TellingEdgeTest::noRingYet);
        Expect.sentence("Promise 4", "IndexOutOfBoundsException: k is below 0",
                TellingEdgeTest::ringBelow0);
        Expect.sentence("Promise 5", "whether it was not before", TellingEdgeTest::undoneOnce);
        Expect.sentence("Promise 5", "whether it was not before", "no, and nothing changes",
                TellingEdgeTest::undoneTwice);
        Expect.sentence("Promise 5", "A relation is undone", "that one alone",
                TellingEdgeTest::othersStand);
        Expect.sentence("Promise 5", "Groups stay as they are", TellingEdgeTest::groupsStay);
        Expect.sentence("Promise 5", "A relation is undone", "rings and versions stay",
                TellingEdgeTest::ringsAndVersionsStay);
        Expect.sentence("Promise 5", "IndexOutOfBoundsException", TellingEdgeTest::undoOfNothing);
        Expect.end();
    }

    private static void aNewObjectIsEmpty() {
        Dig x = new Dig();
        x.countsAre("new", 0, 0, 0, 0, 0);
        x.linksAre("new");
        x.ringIs("new");
        x.groupRingIs("new");
        Expect.same("the first version is of nothing", 0, x.version());
        x.differencesAre("nothing differs", 0, 0);
        Expect.same("the first group", 0, x.group());
        Expect.same("the first context", 0, x.context());
        x.countsAre("one context, one group", 1, 0, 1, 0, 1);
    }

    private static void aNewObjectHasNothingToAskFor() {
        Dig x = new Dig();
        for (int kind : ALL_KINDS) {
            Expect.noPlace("relate(0, 0, " + kind + ")", () -> x.relate(0, 0, kind));
        }
        Expect.noPlace("undo(0)", () -> x.undo(0));
        Expect.noPlace("order(0, 0)", () -> x.order(0, 0));
        Expect.noPlace("link(0, 0)", () -> x.link(0, 0));
        Expect.noPlace("equal(0)", () -> x.equal(0));
        Expect.noPlace("contemporary(0, 0)", () -> x.contemporary(0, 0));
        Expect.noPlace("longest(0)", () -> x.longest(0));
        Expect.noPlace("into(0, 0)", () -> x.into(0, 0));
        Expect.noPlace("groupOf(0)", () -> x.groupOf(0));
        Expect.noPlace("differs(0, 0, 0)", () -> x.differs(0, 0, 0));
        x.group();
        Expect.noPlace("into(0, 0) with a group", () -> x.into(0, 0));
        x.countsAre("still no contexts", 0, 0, 0, 0, 1);
    }

    private static void objectsShareNothing() {
        Dig first = Dig.rich();
        Dig second = new Dig();
        second.countsAre("the second is empty", 0, 0, 0, 0, 0);
        second.ringIs("the second has no ring");
        second.groupRingIs("the second has no ring of groups");
        second.contexts(0, 48);
        second.above(3, 0);
        Expect.same("the first has its contexts", 7, first.count(0));
        Expect.same("the first has its order", 1, first.order(0, 3));
        first.ringIs("the first has its ring", 3, 0, 1, 2);
    }

    private static void contextsAreNumberedOn() {
        Dig x = new Dig();
        Expect.same("the first", 0, x.context());
        Expect.same("the second", 1, x.context());
        x.told(0, 1, EQUAL);
        Expect.same("joined ones keep their numbers taken", 2, x.context());
        x.relate(2, 2, ABOVE);
        x.undo(0);
        x.group();
        x.version();
        Expect.same("what else was told does not matter", 3, x.context());
        x.contexts(4, 48);
        Expect.same("contexts", 48, x.count(0));
    }

    private static void aNewContextIsAlone() {
        Dig x = Dig.rich();
        Expect.same("context()", 7, x.context());
        Expect.same("equal(7)", 7, x.equal(7));
        Expect.same("longest(7)", 0, x.longest(7));
        Expect.same("groupOf(7)", NONE, x.groupOf(7));
        for (int c = 0; c < 7; c++) {
            Expect.same("order(7, " + c + ")", 0, x.order(7, c));
            Expect.no("contemporary(7, " + c + ")", x.contemporary(7, c));
        }
        x.linksAre("no link more", 0, 1, 1, 2, 2, 3);
        x.countsAre("one context, one joined one more", 8, 5, 7, 6, 3);
    }

    private static void thereAre48() {
        Dig x = Dig.of(47);
        x.chain(0, 46);
        Expect.same("the last one", 47, x.context());
        for (int i = 0; i < 3; i++) {
            Expect.full("one more", x::context);
        }
        x.countsAre("they are 48", 48, 46, 48, 1081, 0);
        Expect.same("the last one is alone", 47, x.equal(47));
        Expect.noPlace("there is no 48", () -> x.equal(48));
        Expect.same("relations still go on", 46, x.relate(46, 47, ABOVE));
        Expect.same("and order", 1, x.order(0, 47));
        x.undo(46);
        Expect.full("an undone relation makes no room", x::context);
        x.told(0, 47, EQUAL);
        Expect.full("joined ones make no room", x::context);
    }

    private static void relationsAreNumberedOn() {
        Dig x = Dig.of(3);
        Expect.same("the first", 0, x.relate(0, 1, ABOVE));
        Expect.same("the same once more", 1, x.relate(0, 1, ABOVE));
        Expect.same("another kind", 2, x.relate(0, 1, FILLS));
        Expect.same("a ring", NONE, x.relate(1, 0, ABOVE));
        Expect.same("takes no number", 3, x.relate(2, 2, CONTEMPORARY));
        Expect.noPlace("a wrong one", () -> x.relate(0, 3, ABOVE));
        Expect.same("takes none", 4, x.relate(2, 2, EQUAL));
        x.undo(4);
        x.undo(0);
        Expect.same("undone ones keep theirs", 5, x.relate(0, 1, ABOVE));
        Expect.same("relations that count", 4, x.count(1));
    }

    private static void ringsAreRefused() {
        for (int kind : ORDERING) {
            Dig x = Dig.of(48);
            Expect.same("with itself", NONE, x.relate(0, 0, kind));
            x.told(46, 47, kind);
            Expect.same("back", NONE, x.relate(47, 46, kind));
            x.told(0, 46, CUTS);
            Expect.same("back over two", NONE, x.relate(47, 0, kind));
            x.told(47, 5, EQUAL);
            Expect.same("back from a joined one", NONE, x.relate(5, 0, kind));
            x.told(0, 6, EQUAL);
            Expect.same("back to a joined one", NONE, x.relate(5, 6, kind));
            Expect.same("among joined ones", NONE, x.relate(6, 0, kind));
            Expect.same("among joined ones, back", NONE, x.relate(0, 6, kind));
            Expect.same("the next number", 4, x.relate(0, 47, kind));
        }
    }

    private static void ringsByEqualAreRefused() {
        Dig x = Dig.of(8);
        x.above(0, 1, 2, 3);
        Expect.same("the upper and the lower", NONE, x.relate(0, 1, EQUAL));
        Expect.same("the lower and the upper", NONE, x.relate(1, 0, EQUAL));
        Expect.same("one and three may be one", 2, x.relate(1, 2, EQUAL));
        Expect.same("then the ends may not", NONE, x.relate(3, 0, EQUAL));
        Expect.same("nor so", NONE, x.relate(0, 3, EQUAL));
        x.told(7, 3, EQUAL);
        x.told(6, 0, EQUAL);
        Expect.same("nor by those that are one with them", NONE, x.relate(7, 6, EQUAL));
        x.numbersAre("none was joined", 0, 1, 1, 3, 4, 5, 0, 3);
        x.undo(2);
        Expect.same("it was the join that was in the way", 5, x.relate(3, 0, EQUAL));
    }

    private static void whatIsNoRingIsTaken() {
        Dig x = Dig.of(6);
        x.above(0, 1);
        Expect.same("the same again", 1, x.relate(0, 1, CUTS));
        Expect.same("equal to itself", 2, x.relate(1, 1, EQUAL));
        Expect.same("equal", 3, x.relate(4, 5, EQUAL));
        Expect.same("equal again", 4, x.relate(5, 4, EQUAL));
        Expect.same("contemporary of the upper and the lower", 5, x.relate(1, 0, CONTEMPORARY));
        Expect.same("contemporary of joined ones", 6, x.relate(4, 5, CONTEMPORARY));
        Expect.same("siblings may be one", 7, x.relate(0, 2, EQUAL));
        x.ringIs("none was told");
        x.undo(0);
        Expect.same("still told by the other", NONE, x.relate(1, 0, ABOVE));
        x.undo(1);
        Expect.same("the other way round after undoing", 8, x.relate(1, 0, ABOVE));
        Expect.same("the order is that now", -1, x.order(0, 1));
    }

    private static void refusedRelationsChangeNothing() {
        for (int kind : ORDERING) {
            Twins.changesRingAlone("back by kind " + kind, Dig::rich, x -> x.refused(2, 0, kind, 2, 0, 1));
            Twins.changesRingAlone("itself by kind " + kind, Dig::rich, x -> x.refused(6, 6, kind, 6));
            Twins.changesRingAlone("joined by kind " + kind, Dig::rich, x -> x.refused(4, 1, kind, 1));
        }
        Twins.changesRingAlone("equal", Dig::rich, x -> x.refused(4, 2, EQUAL, 1, 2));
        Twins.changesRingAlone("equal, lower first", Dig::rich, x -> x.refused(3, 4, EQUAL, 1, 2, 3));
        Twins.changesRingAlone("two rings", Dig::rich, x -> {
            x.refused(3, 4, EQUAL, 1, 2, 3);
            x.refused(1, 0, ABOVE, 1, 0);
        });
    }

    private static void equalTellsTheShortestWayDown() {
        Dig x = Dig.of(48);
        x.above(40, 30, 30, 20, 20, 10);
        x.refused(40, 10, EQUAL, 40, 30, 20, 10);
        x.above(40, 20);
        x.refused(40, 10, EQUAL, 40, 20, 10);
        x.above(40, 31, 31, 10);
        x.refused(10, 40, EQUAL, 40, 20, 10);
        x.above(40, 9, 9, 10);
        x.refused(10, 40, EQUAL, 40, 9, 10);
        x.above(40, 10);
        x.refused(40, 10, EQUAL, 40, 10);
        Expect.same("it was not told that it is right below", 1, x.order(40, 10));
    }

    private static void equalBeginsAtTheUpper() {
        Dig x = Dig.of(8);
        x.above(7, 6, 6, 5);
        x.refused(7, 5, EQUAL, 7, 6, 5);
        x.refused(5, 7, EQUAL, 7, 6, 5);
        x.told(2, 7, EQUAL);
        x.refused(7, 5, EQUAL, 2, 6, 5);
        x.told(5, 1, EQUAL);
        x.refused(5, 7, EQUAL, 2, 6, 1);
        x.refused(1, 2, EQUAL, 2, 6, 1);
        x.refused(6, 5, EQUAL, 6, 1);
        x.told(0, 6, EQUAL);
        x.refused(5, 7, EQUAL, 2, 0, 1);
    }

    private static void othersBeginAtA() {
        for (int kind : ORDERING) {
            Dig x = Dig.of(8);
            x.above(3, 7, 7, 5);
            x.refused(5, 3, kind, 5, 3, 7);
            x.refused(7, 3, kind, 7, 3);
            x.told(5, 4, EQUAL);
            x.refused(5, 3, kind, 4, 3, 7);
            x.told(3, 6, EQUAL);
            x.refused(4, 6, kind, 4, 3, 7);
            x.told(7, 0, EQUAL);
            x.refused(5, 6, kind, 4, 3, 0);
            x.refused(7, 6, kind, 0, 3);
        }
    }

    private static void relateOfNothing() {
        Dig x = Dig.of(2);
        for (int kind : ALL_KINDS) {
            for (int c : new int[] {Integer.MIN_VALUE, -1, 2, 47, 48, Integer.MAX_VALUE}) {
                Expect.noPlace("relate(" + c + ", 0, " + kind + ")", () -> x.relate(c, 0, kind));
                Expect.noPlace("relate(0, " + c + ", " + kind + ")", () -> x.relate(0, c, kind));
                Expect.noPlace("relate of it with itself", () -> x.relate(c, c, kind));
            }
        }
        for (int kind : new int[] {Integer.MIN_VALUE, -1, 5, 6, Integer.MAX_VALUE}) {
            Expect.noPlace("relate(0, 1, " + kind + ")", () -> x.relate(0, 1, kind));
            Expect.noPlace("relate(1, 1, " + kind + ")", () -> x.relate(1, 1, kind));
        }
        Expect.same("no ring was told", NONE, x.ring(0));
        Expect.same("no relation was made", 0, x.count(1));
        Expect.same("the next one is the first", 0, x.relate(0, 1, ABOVE));
        Expect.same("a later context", 2, x.context());
        Expect.same("can be related then", 1, x.relate(1, 2, ABOVE));
    }

    private static void thereWere200() {
        Dig x = Dig.of(4);
        for (int i = 0; i < 199; i++) {
            Expect.same("relate", i, x.relate(0, 1, i % 3));
        }
        x.refused(1, 0, ABOVE, 1, 0);
        Expect.noPlace("a wrong one", () -> x.relate(4, 0, ABOVE));
        Expect.same("neither took the last number", 199, x.relate(1, 2, EQUAL));
        for (int kind : ALL_KINDS) {
            Expect.full("one more of kind " + kind, () -> x.relate(2, 3, kind));
        }
        Expect.full("one more that would be a ring", () -> x.relate(3, 3, ABOVE));
        x.ringIs("a full object tells none", 1, 0);
        Expect.same("relations that count", 200, x.count(1));
        Expect.yes("undo the last", x.undo(199));
        Expect.yes("undo the first", x.undo(0));
        Expect.full("there were 200, though two are undone", () -> x.relate(2, 3, ABOVE));
        Expect.same("relations that count then", 198, x.count(1));
        Expect.same("2 is not joined any more", 2, x.equal(2));
        Expect.same("nor in order with 3", 0, x.order(2, 3));
        Expect.same("what was told by others stays", 1, x.order(0, 1));
    }

    private static void theLatestRing() {
        Dig x = Dig.of(6);
        x.above(0, 1, 1, 2, 2, 3);
        x.refused(3, 0, ABOVE, 3, 0, 1, 2);
        x.refused(1, 0, ABOVE, 1, 0);
        x.refused(5, 5, ABOVE, 5);
        x.refused(0, 3, EQUAL, 0, 1, 2, 3);
        x.refused(3, 1, CUTS, 3, 1, 2);
        x.refused(3, 1, CUTS, 3, 1, 2);
    }

    private static void aToldRingStays() {
        Dig x = Dig.of(8, 2);
        x.above(4, 5, 5, 6);
        x.refused(6, 4, ABOVE, 6, 4, 5);
        x.above(6, 7);
        x.ringIs("after a relation that is taken", 6, 4, 5);
        x.told(0, 6, EQUAL);
        x.ringIs("after its numbers are others", 6, 4, 5);
        x.told(1, 2, CONTEMPORARY);
        x.ringIs("after a contemporary one", 6, 4, 5);
        x.undo(0);
        x.ringIs("after it would be none any more", 6, 4, 5);
        Expect.noPlace("a wrong one", () -> x.relate(5, 5, 9));
        x.ringIs("after a wrong one", 6, 4, 5);
        x.into(0, 5);
        x.into(1, 6);
        x.into(0, 7);
        x.groupRingIs("a ring of groups", 0, 1);
        x.ringIs("after a ring of groups", 6, 4, 5);
        x.context();
        x.version();
        x.ringIs("after all else", 6, 4, 5);
    }

    private static void noneBehindARingsEnd() {
        Dig x = Dig.of(48);
        x.chain(0, 47);
        Expect.same("a ring of all", NONE, x.relate(47, 0, ABOVE));
        Expect.same("its last place", 46, x.ring(47));
        for (int k : new int[] {48, 49, 64, 200, Integer.MAX_VALUE}) {
            Expect.same("behind a ring of 48: ring(" + k + ")", NONE, x.ring(k));
        }
        x.refused(1, 0, ABOVE, 1, 0);
        for (int k : new int[] {2, 3, 46, 47, 48, Integer.MAX_VALUE}) {
            Expect.same("behind a ring of two: ring(" + k + ")", NONE, x.ring(k));
        }
        x.refused(9, 9, ABOVE, 9);
        Expect.same("behind a ring of one", NONE, x.ring(1));
        Expect.same("far behind it", NONE, x.ring(47));
    }

    private static void noRingYet() {
        Dig x = Dig.of(3, 2);
        x.above(0, 1);
        for (int k : new int[] {0, 1, 47, 48, Integer.MAX_VALUE}) {
            Expect.same("ring(" + k + ")", NONE, x.ring(k));
        }
        x.above(1, 2);
        x.into(0, 0);
        x.into(1, 1);
        x.intoRefused(0, 2, 0, 1);
        Expect.same("a ring of groups is none of relate()", NONE, x.ring(0));
    }

    private static void ringBelow0() {
        Dig x = Dig.of(2);
        for (int k : new int[] {-1, -2, -48, Integer.MIN_VALUE}) {
            Expect.noPlace("before there is a ring: ring(" + k + ")", () -> x.ring(k));
        }
        x.above(0, 1);
        x.refused(1, 0, ABOVE, 1, 0);
        for (int k : new int[] {-1, -2, -48, Integer.MIN_VALUE}) {
            Expect.noPlace("of a ring: ring(" + k + ")", () -> x.ring(k));
        }
        x.ringIs("it stays", 1, 0);
    }

    private static void undoneOnce() {
        for (int kind : ALL_KINDS) {
            Dig x = Dig.of(2);
            x.told(0, 1, kind);
            Expect.yes("the first time, kind " + kind, x.undo(0));
            Expect.no("the second time", x.undo(0));
            Expect.no("the third time", x.undo(0));
            x.told(0, 1, kind);
            Expect.no("the first one is not back", x.undo(0));
            Expect.yes("the new one", x.undo(1));
        }
    }

    private static void undoneTwice() {
        Dig x = Dig.rich();
        Expect.no("relation 5 was undone before", x.undo(5));
        Twins.changesNothing("undo(5)", Dig::rich, twin -> twin.undo(5));
        Twins.changesNothing("undo(5) often", Dig::rich, twin -> {
            for (int i = 0; i < 9; i++) {
                Expect.no("undo(5)", twin.undo(5));
            }
        });
    }

    private static void othersStand() {
        Dig x = Dig.of(4);
        x.told(0, 1, ABOVE);
        x.told(0, 1, ABOVE);
        x.told(0, 1, CUTS);
        x.told(2, 3, EQUAL);
        x.told(3, 2, EQUAL);
        x.told(0, 3, CONTEMPORARY);
        x.told(3, 0, CONTEMPORARY);
        x.undo(1);
        x.undo(0);
        Expect.same("the third one tells the order", 1, x.order(0, 1));
        x.undo(3);
        Expect.same("the other one tells the join", 2, x.equal(3));
        x.undo(5);
        Expect.yes("the other one tells it contemporary", x.contemporary(0, 2));
        Expect.same("three are left", 3, x.count(1));
        x.undo(2);
        x.undo(4);
        x.undo(6);
        x.countsAre("none is left", 4, 0, 4, 0, 0);
        Expect.no("not contemporary any more", x.contemporary(0, 3));
    }

    private static void groupsStay() {
        Dig x = Dig.of(5, 3);
        x.above(0, 1, 1, 2);
        x.told(3, 0, EQUAL);
        x.into(0, 0);
        x.into(1, 1);
        x.into(2, 3);
        x.intoRefused(0, 2, 0, 1);
        x.undo(0);
        x.undo(1);
        x.undo(2);
        x.homesAre("after the undoing", 0, 1, NONE, 2, NONE);
        Expect.same("three groups", 3, x.count(4));
        x.groupRingIs("the ring of groups", 0, 1);
        Expect.yes("but what was refused may be now", x.into(0, 2));
        x.homesAre("after that", 0, 1, 0, 2, NONE);
    }

    private static void ringsAndVersionsStay() {
        Dig x = Dig.of(4);
        x.version();
        x.above(0, 1, 1, 2);
        x.refused(2, 0, ABOVE, 2, 0, 1);
        x.version();
        x.undo(0);
        x.ringIs("the ring", 2, 0, 1);
        x.differencesAre("both versions", 0, 1, 0, 1, 2);
        x.version();
        x.differencesAre("a version behind it", 1, 2, 0, 1, 2);
        x.undo(1);
        x.version();
        x.differencesAre("all is undone", 0, 3);
    }

    private static void undoOfNothing() {
        Dig x = Dig.of(2);
        Expect.noPlace("none was made", () -> x.undo(0));
        x.above(0, 1);
        x.refused(1, 0, ABOVE, 1, 0);
        for (int r : new int[] {Integer.MIN_VALUE, -1, 1, 2, 199, 200, Integer.MAX_VALUE}) {
            Expect.noPlace("undo(" + r + ")", () -> x.undo(r));
        }
        Expect.same("the order stands", 1, x.order(0, 1));
        Expect.same("the relation counts", 1, x.count(1));
        for (int r = 1; r < 200; r++) {
            x.told(0, 1, ABOVE);
        }
        Expect.yes("the last of all", x.undo(199));
        Expect.noPlace("behind the last of all", () -> x.undo(200));
        Expect.same("relations that count", 199, x.count(1));
    }
}
