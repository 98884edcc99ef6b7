/** The bounds and edges that the document's "What it is" and "Terms" name, sentence by sentence. */
public final class TermsEdgeTest {
    private static final int NONE = Dig.NONE;
    private static final int ABOVE = Dig.ABOVE;
    private static final int CUTS = Dig.CUTS;
    private static final int FILLS = Dig.FILLS;
    private static final int EQUAL = Dig.EQUAL;
    private static final int CONTEMPORARY = Dig.CONTEMPORARY;

    private TermsEdgeTest() {
    }

    public static void main(String[] args) {
        Expect.sentence("What it is, all promises", "An object is used for at most 512 calls",
                TermsEdgeTest::aFullObjectAnswersItsLastCall);
        Expect.sentence("What it is, promise 3", "An object is used for at most 512 calls",
                "refused ones use up nothing", TermsEdgeTest::refusedCallsUseUpNothing);
        Expect.sentence("Terms, promise 2", "CONTEXTS are 0, 1, .. , at most 48",
                TermsEdgeTest::contextsAreAtMost48);
        Expect.sentence("Terms, promise 3", "RELATIONS 0, 1, .. , at most 200",
                TermsEdgeTest::relationsAreAtMost200);
        Expect.sentence("Terms, promise 3", "at most 200 in all",
                TermsEdgeTest::undoneOnesAreAmongThe200);
        Expect.sentence("Terms, promise 3", "kinds 0 ABOVE, 1 CUTS, 2 FILLS (a, b: a is above b)",
                TermsEdgeTest::threeKindsOrder);
        Expect.sentence("Terms, promise 3", "3 EQUAL (a and b are one)", TermsEdgeTest::equalMakesOne);
        Expect.sentence("Terms, promise 3", "4 CONTEMPORARY (orders nothing)",
                TermsEdgeTest::contemporaryOrdersNothing);
        Expect.sentence("Terms, promise 5", "An undone one does not count any more",
                TermsEdgeTest::undoneOnesDoNotCount);
        Expect.sentence("Terms, promise 9", "Contexts that are EQUAL, also by others, are JOINED",
                TermsEdgeTest::joinedAlsoByOthers);
        Expect.sentence("Terms, promise 9", "their NUMBER is the least of them",
                TermsEdgeTest::theNumberIsTheLeast);
        Expect.sentence("Terms, promise 6", "OVER another one if by relations 0 .. 2, one behind the other",
                TermsEdgeTest::overIsOneBehindTheOther);
        Expect.sentence("Terms, promise 3", "No one is over itself: that would be a RING",
                TermsEdgeTest::noOneIsOverItself);
        Expect.sentence("Terms, promise 4", "numbers of joined ones, each above the next one by a relation",
                TermsEdgeTest::ringsGoByRelations);
        Expect.sentence("Terms, promise 4", "it is the SHORTEST one",
                TermsEdgeTest::ringsAreTheShortest);
        Expect.sentence("Terms, promise 4", "the one with the lower number where they differ first",
                TermsEdgeTest::ringsAreTheLowerWhereTheyDifferFirst);
        Expect.sentence("Terms, promise 7", "and nothing lies between (over one and under the other)",
                TermsEdgeTest::linksHaveNothingBetween);
        Expect.sentence("Terms, promise 8", "in the order of the upper one's number, then the lower one's",
                TermsEdgeTest::linksAreInOrder);
        Expect.sentence("Terms, promise 12", "GROUPS are 0 .. 11", TermsEdgeTest::groupsAreAtMostTwelve);
        Expect.sentence("Terms, promise 13", "a context is in one at most",
                TermsEdgeTest::oneGroupAtMost);
        Expect.sentence("Terms, promise 13", "if some context of it is over one of the other",
                TermsEdgeTest::someContextIsEnough);
        Expect.sentence("Terms, promise 13", "(by their joined ones)",
                TermsEdgeTest::groupsGoByJoinedOnes);
        Expect.sentence("Terms, promise 14", "by the numbers of groups, from the one that was asked for on",
                TermsEdgeTest::ringsOfGroupsBeginWhereAsked);
        Expect.sentence("Terms, promise 16", "which are over which, and which are joined",
                TermsEdgeTest::versionsHoldOrderAndJoins);
        Expect.sentence("Terms, promise 16", "versions are 0 .. 7",
                TermsEdgeTest::versionsAreAtMostEight);
        Expect.end();
    }

    private static void aFullObjectAnswersItsLastCall() {
        Dig x = Dig.of(48, 12);
        x.chain(0, 47);
        for (int i = 47; i < 199; i++) {
            Expect.same("relate", i, x.relate(i % 40, i % 40 + 7, i % 3));
        }
        Expect.same("a ring", NONE, x.relate(47, 0, ABOVE));
        for (int v = 0; v < 8; v++) {
            Expect.same("version()", v, x.version());
        }
        Expect.same("the last relation", 199, x.relate(0, 47, CONTEMPORARY));
        for (int c = 0; c < 48; c++) {
            Expect.yes("into", x.into(c / 4, c));
        }
        x.countsAre("all is full", 48, 200, 48, 1128, 12);
        while (x.calls() < Dig.MOST_CALLS - 3) {
            int c = x.calls() % 47;
            Expect.same("order(" + c + ", 47)", 1, x.order(c, 47));
        }
        Expect.same("call 510", 47, x.longest(47));
        Expect.same("call 511", 47, x.links());
        Expect.yes("call 512", x.contemporary(47, 0));
        Expect.same("calls", 512, x.calls());
    }

    private static void refusedCallsUseUpNothing() {
        Dig x = Dig.of(2, 2);
        x.above(0, 1);
        while (x.calls() < Dig.MOST_CALLS - 3) {
            Expect.same("relate", NONE, x.relate(1, 0, x.calls() % 4));
        }
        Expect.same("the next relation", 1, x.relate(0, 1, FILLS));
        Expect.same("relations that count", 2, x.count(1));
        Expect.same("call 512", 1, x.order(0, 1));
        Expect.same("calls", 512, x.calls());
    }

    private static void contextsAreAtMost48() {
        Dig x = Dig.of(48, 1);
        Expect.full("context 48", x::context);
        x.version();
        Expect.same("47 is in a relation", 0, x.relate(47, 46, ABOVE));
        x.version();
        Expect.same("47 is over", 1, x.order(47, 46));
        Expect.same("47 is under", -1, x.order(46, 47));
        Expect.same("47 has a number", 47, x.equal(47));
        Expect.same("46 has one above it", 1, x.longest(46));
        x.linksAre("47 is in a link", 47, 46);
        x.refused(46, 47, ABOVE, 46, 47);
        x.told(45, 47, CONTEMPORARY);
        Expect.yes("47 is contemporary", x.contemporary(47, 45));
        Expect.yes("47 comes into a group", x.into(0, 47));
        Expect.same("47 is in it", 0, x.groupOf(47));
        x.differencesAre("47 differs", 0, 1, 46, 47);
        Expect.noPlace("there is no context 48", () -> x.equal(48));
    }

    private static void relationsAreAtMost200() {
        Dig x = Dig.of(4);
        int[] kinds = {ABOVE, CUTS, FILLS, EQUAL, CONTEMPORARY};
        for (int i = 0; i < 200; i++) {
            int kind = kinds[i % 5];
            int number = kind == EQUAL ? x.relate(3, 1, kind) : x.relate(0, 1, kind);
            Expect.same("relate of kind " + kind, i, number);
        }
        for (int kind : kinds) {
            Expect.full("relation 200 of kind " + kind, () -> x.relate(2, 2, kind));
        }
        Expect.same("relations that count", 200, x.count(1));
        Expect.yes("the last one can be undone", x.undo(199));
        Expect.noPlace("there is no relation 200", () -> x.undo(200));
    }

    private static void undoneOnesAreAmongThe200() {
        Dig x = Dig.of(2);
        for (int i = 0; i < 200; i++) {
            Expect.same("relate", i, x.relate(0, 1, ABOVE));
            Expect.yes("undo", x.undo(i));
        }
        Expect.same("none counts", 0, x.count(1));
        Expect.full("but there were 200", () -> x.relate(0, 1, ABOVE));
        Expect.full("and are still", () -> x.relate(0, 1, CONTEMPORARY));
        Expect.same("none was made", 0, x.order(0, 1));
    }

    private static void threeKindsOrder() {
        for (int kind : new int[] {ABOVE, CUTS, FILLS}) {
            Dig x = Dig.of(2);
            Expect.same("relate of kind " + kind, 0, x.relate(1, 0, kind));
            Expect.same("a is over b", 1, x.order(1, 0));
            Expect.same("b is under a", -1, x.order(0, 1));
            x.linksAre("a above b", 1, 0);
            x.numbersAre("none is joined", 0, 1);
            Expect.no("not contemporary", x.contemporary(0, 1));
        }
    }

    private static void equalMakesOne() {
        Dig x = Dig.of(3);
        Expect.same("relate of kind 3", 0, x.relate(2, 1, EQUAL));
        x.numbersAre("joined", 0, 1, 1);
        Expect.same("they are in no order", 0, x.order(2, 1));
        x.linksAre("and in no link");
        Expect.same("one with itself", 1, x.relate(0, 0, EQUAL));
        Expect.same("joined ones", 2, x.count(2));
    }

    private static void contemporaryOrdersNothing() {
        Dig x = Dig.of(4);
        Expect.same("relate of kind 4", 0, x.relate(0, 1, CONTEMPORARY));
        Expect.same("the other way round is no ring", 1, x.relate(1, 0, CONTEMPORARY));
        Expect.same("with itself is no ring", 2, x.relate(2, 2, CONTEMPORARY));
        Expect.same("no order", 0, x.order(0, 1));
        x.countsAre("no joins and no pairs", 4, 3, 4, 0, 0);
        x.linksAre("no links");
        x.above(2, 3);
        Expect.same("an order stays", 4, x.relate(3, 2, CONTEMPORARY));
        Expect.same("as it is", 1, x.order(2, 3));
        Expect.same("an order may follow", 5, x.relate(1, 0, ABOVE));
        Expect.same("and may be joined", 6, x.relate(2, 1, EQUAL));
        Expect.same("no ring was told", NONE, x.ring(0));
    }

    private static void undoneOnesDoNotCount() {
        for (int kind : new int[] {ABOVE, CUTS, FILLS, EQUAL, CONTEMPORARY}) {
            Dig x = Dig.of(3);
            x.version();
            x.told(0, 1, kind);
            x.undo(0);
            x.version();
            x.countsAre("after the undoing of kind " + kind, 3, 0, 3, 0, 0);
            Expect.same("no order", 0, x.order(0, 1));
            x.numbersAre("no join", 0, 1, 2);
            Expect.no("not contemporary", x.contemporary(0, 1));
            x.linksAre("no links");
            Expect.same("no way down", 0, x.longest(1));
            x.differencesAre("as if never told", 0, 1);
            Expect.same("it can be told again", 1, x.relate(0, 1, kind));
            Expect.yes("and undone again", x.undo(1));
            Expect.same("the other way round is no ring then", 2, x.relate(1, 0, ABOVE));
        }
    }

    private static void joinedAlsoByOthers() {
        Dig x = Dig.of(48);
        for (int c = 47; c > 0; c--) {
            x.told(c, c - 1, EQUAL);
        }
        for (int c = 0; c < 48; c++) {
            Expect.same("all are one: equal(" + c + ")", 0, x.equal(c));
        }
        Expect.same("joined ones", 1, x.count(2));
        Expect.yes("the ends are joined", x.contemporary(0, 47));
        x.undo(23);
        Expect.same("the part below the undone one", 0, x.equal(23));
        Expect.same("the part above it", 24, x.equal(47));
        Expect.same("two joined ones", 2, x.count(2));
    }

    private static void theNumberIsTheLeast() {
        Dig x = Dig.of(6);
        x.told(4, 5, EQUAL);
        x.numbersAre("two", 0, 1, 2, 3, 4, 4);
        x.told(5, 2, EQUAL);
        x.numbersAre("a lower one comes to the higher of them", 0, 1, 2, 3, 2, 2);
        x.told(1, 3, EQUAL);
        x.told(3, 5, EQUAL);
        x.numbersAre("two joined ones become one", 0, 1, 1, 1, 1, 1);
        x.told(0, 4, EQUAL);
        x.numbersAre("the lowest of all", 0, 0, 0, 0, 0, 0);
    }

    private static void overIsOneBehindTheOther() {
        Dig x = Dig.of(48);
        x.told(47, 31, ABOVE);
        x.told(31, 32, CUTS);
        x.told(32, 0, FILLS);
        Expect.same("three behind each other", 1, x.order(47, 0));
        Expect.same("and back", -1, x.order(0, 47));
        x.told(0, 5, EQUAL);
        x.told(5, 40, ABOVE);
        Expect.same("through a joined one", 1, x.order(47, 40));
        x.told(33, 31, EQUAL);
        Expect.same("from a joined one", 1, x.order(33, 40));
        x.told(41, 40, EQUAL);
        Expect.same("to a joined one", 1, x.order(33, 41));
        x.told(40, 6, CONTEMPORARY);
        x.told(6, 7, ABOVE);
        Expect.same("not through a contemporary one", 0, x.order(40, 7));
    }

    private static void noOneIsOverItself() {
        for (int kind : new int[] {ABOVE, CUTS, FILLS}) {
            Dig x = Dig.of(4);
            x.refused(2, 2, kind, 2);
            x.told(3, 1, EQUAL);
            x.refused(3, 3, kind, 1);
            x.refused(3, 1, kind, 1);
            x.refused(1, 3, kind, 1);
            x.above(2, 3);
            x.refused(1, 2, kind, 1, 2);
            Expect.same("order of one with itself", 0, x.order(2, 2));
            Expect.same("order of two that are one", 0, x.order(1, 3));
            Expect.same("relations that count", 2, x.count(1));
        }
    }

    private static void ringsGoByRelations() {
        Dig x = Dig.of(6);
        x.told(1, 5, EQUAL);
        x.above(3, 2, 2, 5, 1, 4);
        x.refused(4, 3, ABOVE, 4, 3, 2, 1);
        x.told(0, 2, EQUAL);
        x.refused(4, 3, CUTS, 4, 3, 0, 1);
        Expect.same("3 is over 4, but by no relation", 1, x.order(3, 4));
        x.above(3, 4);
        x.refused(4, 3, FILLS, 4, 3);
    }

    private static void ringsAreTheShortest() {
        Dig x = Dig.of(48);
        x.chain(0, 47);
        x.relate(47, 0, ABOVE);
        Expect.same("the longest: its first", 47, x.ring(0));
        for (int k = 1; k < 48; k++) {
            Expect.same("the longest: ring(" + k + ")", k - 1, x.ring(k));
        }
        Expect.same("the longest ends", NONE, x.ring(48));
        x.above(0, 45, 1, 46);
        x.refused(47, 0, ABOVE, 47, 0, 1, 46);
        x.above(0, 46);
        x.refused(47, 0, ABOVE, 47, 0, 46);
        x.above(0, 47);
        x.refused(47, 0, ABOVE, 47, 0);
        x.refused(0, 0, ABOVE, 0);
    }

    private static void ringsAreTheLowerWhereTheyDifferFirst() {
        Dig x = Dig.of(48);
        x.above(2, 30, 30, 3, 3, 40);
        x.refused(40, 2, ABOVE, 40, 2, 30, 3);
        x.above(2, 20, 20, 35, 35, 40);
        x.refused(40, 2, ABOVE, 40, 2, 20, 35);
        x.above(20, 33, 33, 40);
        x.refused(40, 2, ABOVE, 40, 2, 20, 33);
        x.above(2, 1);
        x.refused(40, 2, ABOVE, 40, 2, 20, 33);
        x.above(1, 47, 47, 40);
        x.refused(40, 2, ABOVE, 40, 2, 1, 47);
    }

    private static void linksHaveNothingBetween() {
        Dig x = Dig.of(48);
        x.above(0, 47);
        x.linksAre("nothing between", 0, 47);
        x.above(0, 46, 46, 47);
        x.linksAre("46 between", 0, 46, 46, 47);
        x.told(45, 46, EQUAL);
        x.linksAre("45 is 46", 0, 45, 45, 47);
        x.undo(1);
        x.linksAre("46 not between any more", 0, 47, 45, 47);
        x.told(44, 0, CONTEMPORARY);
        x.above(44, 47);
        x.linksAre("a contemporary one is not between", 0, 47, 44, 47, 45, 47);
    }

    private static void linksAreInOrder() {
        Dig x = Dig.of(48);
        x.above(40, 3, 40, 1, 9, 41, 9, 10, 40, 2, 0, 47, 0, 32, 10, 8);
        x.linksAre("told in another order", 0, 32, 0, 47, 9, 10, 9, 41, 10, 8, 40, 1, 40, 2, 40, 3);
        x.told(4, 40, EQUAL);
        x.linksAre("40 is 4 now", 0, 32, 0, 47, 4, 1, 4, 2, 4, 3, 9, 10, 9, 41, 10, 8);
        x.told(41, 7, EQUAL);
        x.linksAre("41 is 7 now", 0, 32, 0, 47, 4, 1, 4, 2, 4, 3, 9, 7, 9, 10, 10, 8);
    }

    private static void groupsAreAtMostTwelve() {
        Dig x = Dig.of(2, 12);
        Expect.full("group 12", x::group);
        Expect.yes("into the first", x.into(0, 0));
        Expect.yes("into the last", x.into(11, 1));
        x.homesAre("both", 0, 11);
        Expect.noPlace("there is no group 12", () -> x.into(12, 0));
        x.homesAre("both still", 0, 11);
        Expect.same("twelve groups", 12, x.count(4));
    }

    private static void oneGroupAtMost() {
        Dig x = Dig.of(3, 3);
        x.above(0, 1, 1, 2);
        for (int g : new int[] {2, 0, 1, 1}) {
            Expect.yes("into " + g, x.into(g, 1));
            Expect.same("is in it", g, x.groupOf(1));
        }
        // If 1 were still in 0 or 2 as well, one of these would close a ring.
        Expect.yes("0 into 2", x.into(2, 0));
        Expect.yes("2 into 0", x.into(0, 2));
        x.homesAre("each in one", 2, 1, 0);
        Dig all = Dig.of(48, 2);
        all.chain(0, 47);
        for (int c = 0; c < 48; c++) {
            Expect.yes("all into one", all.into(1, c));
        }
        Expect.same("the last of all", 1, all.groupOf(47));
    }

    private static void someContextIsEnough() {
        Dig x = Dig.of(48, 3);
        x.above(20, 21, 21, 22, 40, 41);
        for (int c = 0; c < 8; c++) {
            x.into(0, c);
            x.into(1, c + 8);
        }
        Expect.yes("one over another, by one between that is in no group", x.into(0, 20) && x.into(1, 22));
        Expect.yes("back, not yet", x.into(1, 40));
        x.intoRefused(0, 41, 0, 1);
        Expect.yes("inside a group there may be order", x.into(1, 41));
        Expect.yes("a group without order is over none", x.into(2, 30));
    }

    private static void groupsGoByJoinedOnes() {
        Dig x = Dig.of(8, 2);
        x.told(0, 4, EQUAL);
        x.told(1, 5, EQUAL);
        x.above(0, 1);
        Expect.yes("4, which is 0", x.into(0, 4));
        Expect.yes("5, which is 1", x.into(1, 5));
        x.above(2, 3);
        x.told(6, 2, EQUAL);
        Expect.yes("6, which is 2", x.into(1, 6));
        x.intoRefused(0, 3, 0, 1);
        Dig split = Dig.of(4, 2);
        split.told(0, 1, EQUAL);
        Expect.yes("joined ones may be in two groups", split.into(0, 0) && split.into(1, 1));
        split.above(0, 2, 0, 3);
        Expect.yes("one that is under both of them", split.into(0, 2));
        // Group 1 is over group 0 by 1, which is 0; and group 0 would be over group 1 by 0 itself.
        split.intoRefused(1, 3, 1, 0);
    }

    private static void ringsOfGroupsBeginWhereAsked() {
        Dig x = Dig.of(6, 12);
        x.above(0, 1, 2, 3, 4, 5);
        x.into(11, 0);
        x.into(5, 1);
        x.into(5, 2);
        x.into(8, 3);
        x.into(8, 4);
        x.intoRefused(11, 5, 11, 5, 8);
        x.intoRefused(5, 5, 5, 8);
        x.intoRefused(8, 0, 8, 5);
        Expect.yes("the last one", x.into(8, 5));
    }

    private static void versionsHoldOrderAndJoins() {
        Dig x = Dig.of(5, 1);
        x.version();
        x.told(0, 1, CONTEMPORARY);
        x.into(0, 2);
        x.relate(3, 3, ABOVE);
        x.version();
        x.differencesAre("contemporary, groups and rings are not in it", 0, 1);
        x.above(3, 4);
        x.version();
        x.differencesAre("which are over which", 1, 2, 3, 4);
        x.told(0, 2, EQUAL);
        x.version();
        x.differencesAre("which are joined", 2, 3, 2);
        x.differencesAre("what was told so far stays", 1, 2, 3, 4);
        x.differencesAre("both", 0, 3, 2, 3, 4);
    }

    private static void versionsAreAtMostEight() {
        Dig x = new Dig();
        for (int v = 0; v < 8; v++) {
            Expect.same("version()", v, x.version());
            Expect.same("a context behind it", v, x.context());
        }
        Expect.full("version 8", x::version);
        Expect.noPlace("there is no version 8", () -> x.differs(0, 8, 0));
        x.differencesAre("the last two", 6, 7, 6);
        x.differencesAre("the first and the last", 0, 7, 0, 1, 2, 3, 4, 5, 6);
    }
}
