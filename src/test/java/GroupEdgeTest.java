/** The edges that the promises 12 to 15 name, sentence by sentence: groups and their rings. */
public final class GroupEdgeTest {
    private static final int NONE = Dig.NONE;
    private static final int ABOVE = Dig.ABOVE;
    private static final int EQUAL = Dig.EQUAL;
    private static final int CONTEMPORARY = Dig.CONTEMPORARY;

    private GroupEdgeTest() {
    }

    public static void main(String[] args) {
        Expect.sentence("Promise 12", "A group: its number", GroupEdgeTest::groupsAreNumberedOn);
        Expect.sentence("Promise 12", "A group: its number", "it has no contexts yet",
                GroupEdgeTest::aNewGroupIsEmpty);
        Expect.sentence("Promise 12", "IllegalStateException: there are twelve",
                GroupEdgeTest::thereAreTwelve);
        Expect.sentence("Promise 13", "A context comes into a group", GroupEdgeTest::intoAGroup);
        Expect.sentence("Promise 13", "(out of that where it was)", GroupEdgeTest::outOfAGroup);
        Expect.sentence("Promise 13", "no, if there would be a ring of groups",
                GroupEdgeTest::ringsAreRefused);
        Expect.sentence("Promise 13", "a ring of groups then that has this one in it",
                GroupEdgeTest::ringsOfOthersDoNotMatter);
        Expect.sentence("Promise 13", "if there would be a ring of groups then",
                "also one that relate() made", GroupEdgeTest::ringsThatAreThereAlready);
        Expect.sentence("Promise 13", "nothing changes, but that the shortest such ring is told",
                GroupEdgeTest::refusedMovesChangeNothing);
        Expect.sentence("Promise 13", "the shortest such ring", GroupEdgeTest::theShortestRingIsTold);
        Expect.sentence("Promise 13", "IndexOutOfBoundsException", GroupEdgeTest::intoNothing);
        Expect.sentence("Promise 14", "the ring of groups that was told latest",
                GroupEdgeTest::theLatestRing);
        Expect.sentence("Promise 14", "the ring of groups that was told latest", "it stays",
                GroupEdgeTest::aToldRingStays);
        Expect.sentence("Promise 14", "NONE behind its end", GroupEdgeTest::noneBehindARingsEnd);
        Expect.sentence("Promise 14", "NONE behind its end", "no ring was told",
                GroupEdgeTest::noRingYet);
        Expect.sentence("Promise 14", "IndexOutOfBoundsException: k is below 0",
                GroupEdgeTest::ringBelow0);
        Expect.sentence("Promise 15", "A context's group", GroupEdgeTest::groupOfEach);
        Expect.sentence("Promise 15", "NONE", GroupEdgeTest::groupOfNone);
        Expect.sentence("Promise 15", "IndexOutOfBoundsException", GroupEdgeTest::groupOfNothing);
        Expect.end();
    }

    private static void groupsAreNumberedOn() {
        Dig x = new Dig();
        Expect.same("the first, without contexts", 0, x.group());
        x.contexts(0, 4);
        Expect.same("the second", 1, x.group());
        x.above(0, 1, 1, 2);
        x.into(0, 0);
        x.into(1, 1);
        x.intoRefused(0, 2, 0, 1);
        Expect.noPlace("a wrong one", () -> x.into(2, 0));
        Expect.same("refused and wrong calls take no number", 2, x.group());
        x.into(2, 0);
        Expect.same("a group that is empty now keeps its number", 3, x.group());
        Expect.same("groups", 4, x.count(4));
    }

    private static void aNewGroupIsEmpty() {
        Dig x = Dig.of(3, 2);
        x.above(0, 1, 1, 2);
        x.homesAre("none is in a group", NONE, NONE, NONE);
        x.into(0, 1);
        Expect.same("group()", 2, x.group());
        x.homesAre("only 1 is in one", NONE, 0, NONE);
        // If the new group had 0 or 2 in it already, one of these would be a ring.
        Expect.yes("2 into the new one", x.into(2, 2));
        Expect.yes("2 into another", x.into(1, 2));
        Expect.yes("0 into the one that 2 left", x.into(2, 0));
    }

    private static void thereAreTwelve() {
        Dig x = Dig.of(13);
        for (int g = 0; g < 12; g++) {
            Expect.same("group()", g, x.group());
        }
        for (int i = 0; i < 3; i++) {
            Expect.full("one more", x::group);
        }
        Expect.same("they are twelve", 12, x.count(4));
        for (int g = 0; g < 12; g++) {
            Expect.yes("into(" + g + ", " + g + ")", x.into(g, g));
        }
        Expect.noPlace("there is no group 12", () -> x.into(12, 12));
        Expect.same("12 is in none", NONE, x.groupOf(12));
        x.into(0, 11);
        Expect.full("an empty one makes no room", x::group);
    }

    private static void intoAGroup() {
        Dig x = Dig.of(48, 12);
        x.chain(0, 47);
        for (int c = 47; c >= 0; c--) {
            Expect.yes("into(" + (11 - c / 4) + ", " + c + ")", x.into(11 - c / 4, c));
        }
        for (int c = 0; c < 48; c++) {
            Expect.same("groupOf(" + c + ")", 11 - c / 4, x.groupOf(c));
        }
        Expect.yes("where it is already", x.into(11, 0));
        Expect.same("it stays there", 11, x.groupOf(0));
        x.groupRingIs("no ring was told");
    }

    private static void outOfAGroup() {
        Dig x = Dig.of(4, 3);
        x.above(0, 1, 1, 2);
        x.into(0, 0);
        x.into(1, 1);
        Expect.yes("the upper one to the lower one", x.into(1, 0));
        Expect.yes("it is not in the first any more", x.into(0, 2));
        x.homesAre("moved", 1, 1, 0, NONE);
        Expect.yes("all into the other", x.into(0, 1) && x.into(0, 0));
        x.homesAre("all are in one", 0, 0, 0, NONE);
        Expect.yes("the upper one out", x.into(2, 0));
        Expect.yes("the lower one out", x.into(1, 2));
        x.homesAre("each in one", 2, 0, 1, NONE);
        x.intoRefused(1, 0, 1, 0);
        x.homesAre("a refused one is not taken out", 2, 0, 1, NONE);
        Dig y = Dig.of(3, 3);
        y.above(0, 1, 0, 2);
        Expect.yes("two in the first", y.into(0, 0) && y.into(0, 1));
        Expect.yes("the first is over the second by 0", y.into(1, 2));
        Expect.yes("but not when 0 is in the second", y.into(1, 0));
        Expect.yes("and back", y.into(0, 0));
        Expect.yes("the one over both into a third", y.into(2, 0));
        y.homesAre("each in one", 2, 0, 1);
    }

    private static void ringsAreRefused() {
        Dig x = Dig.of(24, 12);
        for (int g = 0; g < 11; g++) {
            x.above(2 * g, 2 * g + 3);
            Expect.yes("upper of " + g, x.into(g, 2 * g));
            Expect.yes("lower of " + g, x.into(g, 2 * g + 1));
        }
        x.above(22, 1);
        Expect.yes("lower of 11", x.into(11, 23));
        Expect.no("all twelve would be in a ring", x.into(11, 22));
        x.groupRingIs("all twelve", 11, 0, 1, 2, 3, 4, 5, 6, 7, 8, 9, 10);
        Expect.same("22 is in none", NONE, x.groupOf(22));
        x.intoRefused(1, 22, 1, 0);
        Expect.yes("into the group that it lies over", x.into(0, 22));
        x.intoRefused(11, 22, 11, 0, 1, 2, 3, 4, 5, 6, 7, 8, 9, 10);
        Expect.same("22 stays where it was", 0, x.groupOf(22));
        Dig back = Dig.of(48, 2);
        back.above(47, 31, 31, 0);
        back.into(0, 47);
        back.into(1, 31);
        back.intoRefused(0, 0, 0, 1);
        Expect.yes("the lowest into the lower group", back.into(1, 0));
    }

    private static void ringsOfOthersDoNotMatter() {
        Dig x = Dig.of(8, 4);
        x.into(0, 0);
        x.into(0, 1);
        x.into(1, 2);
        x.into(1, 3);
        x.above(0, 2, 3, 1);
        Expect.yes("into a group that is in no ring", x.into(2, 4));
        x.groupRingIs("and none is told");
        x.above(1, 4);
        Expect.yes("into a group under a ring", x.into(2, 5));
        x.above(6, 0);
        Expect.yes("into a group over a ring", x.into(3, 6));
        x.groupRingIs("still none is told");
        x.homesAre("all as asked", 0, 0, 1, 1, 2, 2, 3, NONE);
    }

    private static void ringsThatAreThereAlready() {
        Dig x = Dig.of(8, 3);
        x.into(0, 0);
        x.into(0, 1);
        x.into(1, 2);
        x.into(1, 3);
        x.above(0, 2, 3, 1);
        Expect.same("relate() looks at no groups", 2, x.relate(6, 7, ABOVE));
        x.groupRingIs("nor tells their rings");
        x.intoRefused(1, 5, 1, 0);
        Expect.same("5 is in none", NONE, x.groupOf(5));
        x.intoRefused(0, 5, 0, 1);
        Expect.yes("a move that ends the ring", x.into(2, 3));
        Expect.yes("then there is none", x.into(1, 5));
    }

    private static void refusedMovesChangeNothing() {
        Twins.changesGroupRingAlone("out of none", Dig::rich, x -> x.intoRefused(0, 2, 0, 1));
        Twins.changesGroupRingAlone("out of a group", Dig::rich, x -> x.intoRefused(0, 3, 0, 1));
        Twins.changesGroupRingAlone("the upper one down", Dig::rich, x -> x.intoRefused(2, 0, 2, 1));
        Twins.changesGroupRingAlone("two of them", Dig::rich, x -> {
            x.intoRefused(2, 0, 2, 1);
            x.intoRefused(0, 3, 0, 1);
        });
        Dig x = Dig.rich();
        x.intoRefused(2, 0, 2, 1);
        x.homesAre("after a refused one", 0, 1, NONE, 2, NONE, NONE, NONE);
    }

    private static void theShortestRingIsTold() {
        Dig x = Dig.of(20, 12);
        // From group 3 down to group 4: by groups 9 and 8, by 9 and 2, by 10 and 1.
        x.above(0, 1, 2, 3, 4, 5, 6, 7, 8, 5, 9, 10, 11, 12, 13, 5, 16, 17);
        x.into(3, 0);
        x.into(9, 1);
        x.into(9, 2);
        x.into(8, 3);
        x.into(8, 4);
        x.into(4, 5);
        x.into(4, 16);
        x.intoRefused(3, 17, 3, 9, 8, 4);
        x.into(9, 6);
        x.into(2, 7);
        x.into(2, 8);
        x.intoRefused(3, 17, 3, 9, 2, 4);
        x.into(3, 9);
        x.into(10, 10);
        x.into(10, 11);
        x.into(1, 12);
        x.into(1, 13);
        x.intoRefused(3, 17, 3, 9, 2, 4);
        x.above(11, 5);
        x.intoRefused(3, 17, 3, 10, 4);
        x.above(2, 5);
        x.intoRefused(3, 17, 3, 9, 4);
        x.above(0, 5);
        x.intoRefused(3, 17, 3, 4);
    }

    private static void intoNothing() {
        Dig x = Dig.of(2);
        Expect.noPlace("there is no group", () -> x.into(0, 0));
        Expect.same("no group was made", 0, x.count(4));
        x.group();
        x.group();
        x.into(1, 0);
        for (int g : new int[] {Integer.MIN_VALUE, -1, 2, 11, 12, Integer.MAX_VALUE}) {
            Expect.noPlace("into(" + g + ", 0)", () -> x.into(g, 0));
            Expect.noPlace("into(" + g + ", 2)", () -> x.into(g, 2));
        }
        for (int c : new int[] {Integer.MIN_VALUE, -1, 2, 47, 48, Integer.MAX_VALUE}) {
            Expect.noPlace("into(0, " + c + ")", () -> x.into(0, c));
        }
        x.homesAre("nothing moved", 1, NONE);
        x.context();
        x.group();
        Expect.yes("what came later", x.into(2, 2));
    }

    private static void theLatestRing() {
        Dig x = Dig.rich();
        x.groupRingIs("told before", 0, 1);
        x.intoRefused(2, 0, 2, 1);
        x.intoRefused(0, 3, 0, 1);
        x.above(3, 6);
        Expect.yes("3 over 6", x.into(2, 6));
        x.intoRefused(0, 6, 0, 1);
        Dig y = Dig.of(6, 3);
        y.above(0, 1, 2, 3, 4, 5);
        y.into(0, 0);
        y.into(1, 1);
        y.into(1, 2);
        y.into(2, 3);
        y.into(2, 4);
        y.intoRefused(0, 5, 0, 1, 2);
        y.intoRefused(1, 5, 1, 2);
        Expect.same("nothing of the longer one is left", NONE, y.groupRing(2));
    }

    private static void aToldRingStays() {
        Dig x = Dig.rich();
        Expect.yes("a move that may be", x.into(2, 6));
        x.groupRingIs("after it", 0, 1);
        x.refused(3, 0, ABOVE, 3, 0, 1, 2);
        x.groupRingIs("after a ring of relate()", 0, 1);
        x.undo(0);
        x.undo(1);
        x.groupRingIs("after it would be none any more", 0, 1);
        Expect.noPlace("a wrong move", () -> x.into(3, 0));
        x.groupRingIs("after that", 0, 1);
        x.group();
        x.context();
        x.version();
        x.into(2, 1);
        x.groupRingIs("after all else", 0, 1);
    }

    private static void noneBehindARingsEnd() {
        Dig x = Dig.of(24, 12);
        for (int c = 0; c < 24; c++) {
            x.into(c / 2, c);
        }
        for (int g = 0; g < 12; g++) {
            x.above(2 * g, (2 * g + 3) % 24);
        }
        Expect.no("a ring of all", x.into(0, 0));
        Expect.same("its last place", 11, x.groupRing(11));
        for (int k : new int[] {12, 13, 47, 48, Integer.MAX_VALUE}) {
            Expect.same("behind a ring of twelve: groupRing(" + k + ")", NONE, x.groupRing(k));
        }
        x.above(2, 1);
        x.intoRefused(1, 2, 1, 0);
        for (int k : new int[] {2, 3, 11, 12, Integer.MAX_VALUE}) {
            Expect.same("behind a ring of two: groupRing(" + k + ")", NONE, x.groupRing(k));
        }
    }

    private static void noRingYet() {
        Dig x = Dig.of(3, 2);
        for (int k : new int[] {0, 1, 11, 12, Integer.MAX_VALUE}) {
            Expect.same("groupRing(" + k + ")", NONE, x.groupRing(k));
        }
        x.above(0, 1);
        x.into(0, 0);
        x.into(1, 1);
        x.refused(1, 0, ABOVE, 1, 0);
        Expect.same("a ring of relate() is none of groups", NONE, x.groupRing(0));
    }

    private static void ringBelow0() {
        Dig empty = new Dig();
        Dig x = Dig.rich();
        for (int k : new int[] {-1, -2, -12, Integer.MIN_VALUE}) {
            Expect.noPlace("before there is a ring: groupRing(" + k + ")", () -> empty.groupRing(k));
            Expect.noPlace("of a ring: groupRing(" + k + ")", () -> x.groupRing(k));
        }
        x.groupRingIs("it stays", 0, 1);
    }

    private static void groupOfEach() {
        Dig x = Dig.of(48, 12);
        Expect.yes("the last into the last", x.into(11, 47));
        Expect.yes("the first into the first", x.into(0, 0));
        Expect.same("the last", 11, x.groupOf(47));
        Expect.same("the first", 0, x.groupOf(0));
        x.told(0, 47, EQUAL);
        Expect.same("joined ones stay each in its own", 11, x.groupOf(47));
        x.told(46, 0, EQUAL);
        Expect.same("a joined one is not taken along", NONE, x.groupOf(46));
        x.into(5, 0);
        Expect.same("moved", 5, x.groupOf(0));
        Expect.same("the one joined with it is not", 11, x.groupOf(47));
    }

    private static void groupOfNone() {
        Dig x = Dig.of(4);
        x.homesAre("without groups", NONE, NONE, NONE, NONE);
        x.group();
        x.group();
        x.homesAre("with empty groups", NONE, NONE, NONE, NONE);
        x.above(0, 1, 1, 2);
        x.told(3, 0, CONTEMPORARY);
        x.into(0, 0);
        x.into(1, 1);
        x.intoRefused(0, 2, 0, 1);
        x.homesAre("a refused one", 0, 1, NONE, NONE);
        x.context();
        Expect.same("a context that came later", NONE, x.groupOf(4));
    }

    private static void groupOfNothing() {
        Dig x = Dig.of(7, 1);
        for (int c : new int[] {Integer.MIN_VALUE, -1, 7, 47, 48, Integer.MAX_VALUE}) {
            Expect.noPlace("groupOf(" + c + ")", () -> x.groupOf(c));
        }
        x.context();
        Expect.same("a context that came later", NONE, x.groupOf(7));
    }
}
