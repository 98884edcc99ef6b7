/** The edges that the promises 16 to 18 name, sentence by sentence: versions and counts. */
public final class VersionEdgeTest {
    private static final int NONE = Dig.NONE;
    private static final int ABOVE = Dig.ABOVE;
    private static final int EQUAL = Dig.EQUAL;
    private static final int CONTEMPORARY = Dig.CONTEMPORARY;

    private VersionEdgeTest() {
    }

    public static void main(String[] args) {
        Expect.sentence("Promise 16", "A version: its number", VersionEdgeTest::versionsAreNumberedOn);
        Expect.sentence("Promise 16", "what was told so far", "it stays so",
                VersionEdgeTest::versionsStay);
        Expect.sentence("Promise 16", "IllegalStateException: there are eight",
                VersionEdgeTest::thereAreEight);
        Expect.sentence("Promise 17", "The k-th context of which two versions differ",
                VersionEdgeTest::differencesInOrder);
        Expect.sentence("Promise 17", "whose joined number", VersionEdgeTest::differsByNumber);
        Expect.sentence("Promise 17", "or the contexts over it or under it",
                VersionEdgeTest::differsByOrder);
        Expect.sentence("Promise 17", "(all that are of joined ones there)",
                VersionEdgeTest::differsByJoinedOnes);
        Expect.sentence("Promise 17", "a context that came later has none in the earlier one",
                VersionEdgeTest::laterContextsDiffer);
        Expect.sentence("Promise 17", "and is no joined one's",
                VersionEdgeTest::laterContextsAreNoJoinedOnes);
        Expect.sentence("Promise 17", "NONE if there are not so many",
                VersionEdgeTest::noneBehindTheLast);
        Expect.sentence("Promise 17", "IndexOutOfBoundsException: versions",
                VersionEdgeTest::differsOfNothing);
        Expect.sentence("Promise 17", "or k is below 0", VersionEdgeTest::differsBelow0);
        Expect.sentence("Promise 18", "0 contexts", VersionEdgeTest::countOfContexts);
        Expect.sentence("Promise 18", "1 relations that count", VersionEdgeTest::countOfRelations);
        Expect.sentence("Promise 18", "2 joined ones", VersionEdgeTest::countOfJoinedOnes);
        Expect.sentence("Promise 18", "3 pairs of joined ones of which one is over the other",
                VersionEdgeTest::countOfPairs);
        Expect.sentence("Promise 18", "4 groups", VersionEdgeTest::countOfGroups);
        Expect.sentence("Promise 18", "IndexOutOfBoundsException: none of these",
                VersionEdgeTest::countOfNothing);
        Expect.end();
    }

    private static void versionsAreNumberedOn() {
        Dig x = new Dig();
        Expect.same("the first, of nothing", 0, x.version());
        Expect.same("the second, of the same", 1, x.version());
        x.contexts(0, 2);
        x.above(0, 1);
        x.refused(1, 0, ABOVE, 1, 0);
        Expect.noPlace("a wrong question", () -> x.differs(0, 2, 0));
        Expect.same("the third", 2, x.version());
        x.differencesAre("nothing and nothing", 0, 1);
        x.differencesAre("nothing and two", 1, 2, 0, 1);
    }

    private static void versionsStay() {
        Dig x = Dig.of(6);
        x.above(0, 1);
        x.told(4, 3, EQUAL);
        x.version();
        x.undo(0);
        x.undo(1);
        x.above(2, 5);
        x.version();
        x.differencesAre("what was told, undone and told", 0, 1, 0, 1, 2, 4, 5);
        x.undo(2);
        x.above(5, 0, 0, 4);
        x.told(1, 3, EQUAL);
        x.contexts(6, 8);
        x.differencesAre("later calls do not matter", 0, 1, 0, 1, 2, 4, 5);
        x.version();
        x.undo(3);
        x.undo(4);
        x.undo(5);
        x.version();
        x.differencesAre("without all that was told", 1, 3, 2, 5, 6, 7);
        x.differencesAre("the first two are the same still", 0, 1, 0, 1, 2, 4, 5);
    }

    private static void thereAreEight() {
        Dig x = new Dig();
        for (int v = 0; v < 8; v++) {
            Expect.same("version()", v, x.version());
            x.context();
        }
        x.above(0, 7);
        for (int i = 0; i < 3; i++) {
            Expect.full("one more", x::version);
        }
        x.differencesAre("the last is as it was", 6, 7, 6);
        x.differencesAre("and the first", 0, 1, 0);
        Expect.noPlace("there is no version 8", () -> x.differs(8, 0, 0));
    }

    private static void differencesInOrder() {
        Dig x = Dig.of(48);
        x.version();
        x.above(47, 31, 32, 0);
        x.told(40, 9, EQUAL);
        x.version();
        x.differencesAre("by the contexts' numbers", 0, 1, 0, 31, 32, 40, 47);
        for (int c = 0; c + 1 < 48; c += 2) {
            x.told(c + 1, c, EQUAL);
        }
        x.version();
        Expect.same("the first", 0, x.differs(0, 2, 0));
        x.told(47, 5, EQUAL);
        x.version();
        x.differencesAre("of many joined ones", 2, 3, 4, 5, 30, 31, 46, 47);
    }

    private static void differsByNumber() {
        Dig x = Dig.of(6);
        x.version();
        x.told(5, 2, EQUAL);
        x.version();
        x.differencesAre("the one whose number is another", 0, 1, 5);
        x.told(2, 4, EQUAL);
        x.version();
        x.differencesAre("a third one", 1, 2, 4);
        x.told(1, 5, EQUAL);
        x.version();
        x.differencesAre("a lower number for all of them", 2, 3, 2, 4, 5);
        x.undo(0);
        x.version();
        x.differencesAre("split", 3, 4, 2, 4);
        x.told(2, 5, EQUAL);
        x.version();
        x.differencesAre("joined again", 3, 5);
        x.told(2, 1, EQUAL);
        x.told(3, 3, EQUAL);
        x.version();
        x.differencesAre("told again, and of itself", 5, 6);
    }

    private static void differsByOrder() {
        Dig x = Dig.of(6);
        x.version();
        x.above(1, 2);
        x.version();
        x.differencesAre("over it and under it", 0, 1, 1, 2);
        x.above(2, 3);
        x.version();
        x.differencesAre("also by others", 1, 2, 1, 2, 3);
        x.above(1, 3);
        x.version();
        x.differencesAre("what followed anyway", 2, 3);
        x.told(0, 1, CONTEMPORARY);
        x.relate(3, 1, ABOVE);
        x.version();
        x.differencesAre("contemporary and refused ones", 3, 4);
        x.undo(0);
        x.version();
        x.differencesAre("1 and 2 are not in order any more", 4, 5, 1, 2);
        x.undo(1);
        x.above(3, 2);
        x.version();
        x.differencesAre("2 and 3 turned round", 5, 6, 1, 2, 3);
    }

    private static void differsByJoinedOnes() {
        Dig x = Dig.of(6);
        x.above(1, 2);
        x.version();
        x.told(3, 2, EQUAL);
        x.version();
        x.differencesAre("1 is over 3 too: 2 alone is as it was", 0, 1, 1, 3);
        x.told(4, 1, EQUAL);
        x.version();
        x.differencesAre("4 is over 2 and 3 too: 1 alone is as it was", 1, 2, 2, 3, 4);
        x.undo(0);
        x.version();
        x.differencesAre("all four", 2, 3, 1, 2, 3, 4);
        x.above(4, 3);
        x.version();
        x.differencesAre("told of others that are one with them", 2, 4);
    }

    private static void laterContextsDiffer() {
        Dig x = Dig.of(2);
        x.version();
        x.context();
        x.version();
        x.context();
        x.differencesAre("the one between, not the one behind both", 0, 1, 2);
        x.above(3, 0);
        x.version();
        x.differencesAre("0 has one over it", 1, 2, 0, 3);
        x.differencesAre("both came later", 0, 2, 0, 2, 3);
        x.contexts(4, 48);
        x.version();
        Expect.same("the first of the rest", 4, x.differs(2, 3, 0));
        Expect.same("the last of the rest", 47, x.differs(2, 3, 43));
        Expect.same("behind it", NONE, x.differs(2, 3, 44));
    }

    private static void laterContextsAreNoJoinedOnes() {
        Dig x = Dig.of(3);
        x.above(0, 1);
        x.version();
        Expect.same("context()", 3, x.context());
        x.told(3, 0, EQUAL);
        x.version();
        x.differencesAre("3 is over 1 too, 0 is as it was", 0, 1, 1, 3);
        Expect.same("context()", 4, x.context());
        x.told(4, 2, EQUAL);
        x.version();
        x.differencesAre("4 alone, though joined", 1, 2, 4);
    }

    private static void noneBehindTheLast() {
        Dig x = new Dig();
        x.version();
        Expect.same("of nothing", NONE, x.differs(0, 0, 0));
        x.contexts(0, 48);
        x.version();
        for (int k = 0; k < 48; k++) {
            Expect.same("all differ: differs(0, 1, " + k + ")", k, x.differs(0, 1, k));
        }
        for (int k : new int[] {48, 49, 64, Integer.MAX_VALUE}) {
            Expect.same("behind the last: differs(0, 1, " + k + ")", NONE, x.differs(0, 1, k));
            Expect.same("back: differs(1, 0, " + k + ")", NONE, x.differs(1, 0, k));
        }
        x.version();
        for (int k : new int[] {0, 1, 47, 48, Integer.MAX_VALUE}) {
            Expect.same("a version and itself", NONE, x.differs(1, 1, k));
            Expect.same("two that are the same", NONE, x.differs(1, 2, k));
        }
        x.above(3, 9);
        x.version();
        Expect.same("the last of two", 9, x.differs(2, 3, 1));
        Expect.same("behind it", NONE, x.differs(2, 3, 2));
    }

    private static void differsOfNothing() {
        Dig x = Dig.of(2);
        Expect.noPlace("there is no version", () -> x.differs(0, 0, 0));
        x.version();
        x.context();
        x.version();
        for (int v : new int[] {Integer.MIN_VALUE, -1, 2, 7, 8, Integer.MAX_VALUE}) {
            Expect.noPlace("differs(" + v + ", 0, 0)", () -> x.differs(v, 0, 0));
            Expect.noPlace("differs(0, " + v + ", 0)", () -> x.differs(0, v, 0));
            Expect.noPlace("differs of it with itself", () -> x.differs(v, v, 0));
            Expect.noPlace("differs far behind", () -> x.differs(1, v, Integer.MAX_VALUE));
        }
        Expect.same("the next version", 2, x.version());
        x.differencesAre("can be asked for then", 0, 2, 2);
    }

    private static void differsBelow0() {
        Dig x = Dig.of(2);
        x.version();
        x.above(0, 1);
        x.version();
        for (int k : new int[] {-1, -2, -48, Integer.MIN_VALUE}) {
            Expect.noPlace("differs(0, 1, " + k + ")", () -> x.differs(0, 1, k));
            Expect.noPlace("differs(1, 0, " + k + ")", () -> x.differs(1, 0, k));
            Expect.noPlace("of a version and itself", () -> x.differs(0, 0, k));
        }
        x.differencesAre("they differ still", 0, 1, 0, 1);
    }

    private static void countOfContexts() {
        Dig x = new Dig();
        Expect.same("none", 0, x.count(0));
        x.contexts(0, 1);
        Expect.same("one", 1, x.count(0));
        x.contexts(1, 48);
        x.told(0, 47, EQUAL);
        Expect.same("48, joined or not", 48, x.count(0));
        Expect.full("one more", x::context);
        Expect.same("still 48", 48, x.count(0));
    }

    private static void countOfRelations() {
        Dig x = Dig.of(3);
        Expect.same("none", 0, x.count(1));
        x.told(0, 1, ABOVE);
        x.told(0, 1, ABOVE);
        x.told(2, 2, EQUAL);
        x.told(0, 1, CONTEMPORARY);
        Expect.same("of all kinds, told again too", 4, x.count(1));
        x.relate(1, 0, ABOVE);
        Expect.same("refused ones do not count", 4, x.count(1));
        x.undo(1);
        x.undo(1);
        Expect.same("an undone one does not, once", 3, x.count(1));
        for (int r = 4; r < 200; r++) {
            x.told(0, 2, CONTEMPORARY);
        }
        Expect.same("all but one", 199, x.count(1));
        Expect.full("one more", () -> x.relate(0, 2, CONTEMPORARY));
        Expect.same("it does not count", 199, x.count(1));
        x.undo(0);
        x.undo(2);
        x.undo(3);
        Expect.same("all but four", 196, x.count(1));
    }

    private static void countOfJoinedOnes() {
        Dig x = new Dig();
        Expect.same("none", 0, x.count(2));
        x.contexts(0, 48);
        Expect.same("each by itself", 48, x.count(2));
        x.told(47, 0, EQUAL);
        x.told(0, 47, EQUAL);
        x.told(5, 5, EQUAL);
        Expect.same("two are one", 47, x.count(2));
        x.above(1, 2);
        x.relate(1, 2, EQUAL);
        Expect.same("refused ones join nothing", 47, x.count(2));
        x.undo(0);
        Expect.same("still told", 47, x.count(2));
        x.undo(1);
        Expect.same("each by itself again", 48, x.count(2));
        x.told(3, 4, CONTEMPORARY);
        Expect.same("contemporary ones are two", 48, x.count(2));
    }

    private static void countOfPairs() {
        Dig x = Dig.of(48);
        Expect.same("none", 0, x.count(3));
        x.chain(0, 47);
        Expect.same("all", 1128, x.count(3));
        x.above(0, 47);
        Expect.same("told again", 1128, x.count(3));
        x.undo(23);
        Expect.same("two halves and one pair more", 276 + 276 + 1, x.count(3));
        Dig y = Dig.of(6);
        y.above(0, 1, 2, 3);
        Expect.same("two", 2, y.count(3));
        y.told(0, 2, EQUAL);
        Expect.same("two of one upper one", 2, y.count(3));
        y.told(1, 3, EQUAL);
        Expect.same("joined ones count once", 1, y.count(3));
        y.told(4, 5, CONTEMPORARY);
        y.relate(1, 0, ABOVE);
        Expect.same("contemporary and refused ones", 1, y.count(3));
        y.undo(0);
        Expect.same("still told by the other", 1, y.count(3));
        y.undo(1);
        Expect.same("none is left", 0, y.count(3));
    }

    private static void countOfGroups() {
        Dig x = Dig.of(2);
        Expect.same("none", 0, x.count(4));
        x.group();
        Expect.same("an empty one", 1, x.count(4));
        x.into(0, 0);
        for (int g = 1; g < 12; g++) {
            x.group();
        }
        x.into(11, 0);
        Expect.same("twelve, empty or not", 12, x.count(4));
        Expect.full("one more", x::group);
        Expect.same("still twelve", 12, x.count(4));
    }

    private static void countOfNothing() {
        Dig empty = new Dig();
        Dig x = Dig.rich();
        for (int what : new int[] {Integer.MIN_VALUE, -5, -1, 5, 6, 8, Integer.MAX_VALUE}) {
            Expect.noPlace("count(" + what + ") of a new object", () -> empty.count(what));
            Expect.noPlace("count(" + what + ")", () -> x.count(what));
        }
        x.countsAre("all else", 7, 5, 6, 6, 3);
    }
}
