/** The edges that the promises 6 to 11 name, sentence by sentence: what follows from what was told. */
public final class OrderEdgeTest {
    private static final int ABOVE = Dig.ABOVE;
    private static final int CUTS = Dig.CUTS;
    private static final int FILLS = Dig.FILLS;
    private static final int EQUAL = Dig.EQUAL;
    private static final int CONTEMPORARY = Dig.CONTEMPORARY;
    // For digs of seven contexts.
    private static final int[] NO_CONTEXT = {Integer.MIN_VALUE, -1, 7, 47, 48, Integer.MAX_VALUE};

    private OrderEdgeTest() {
    }

    public static void main(String[] args) {
        Expect.sentence("Promise 6", "1: a is over b, -1: under it", OrderEdgeTest::orderOfTheFarthest);
        Expect.sentence("Promise 6", "0: neither", OrderEdgeTest::orderOfNeither);
        Expect.sentence("Promise 6", "IndexOutOfBoundsException", OrderEdgeTest::orderOfNothing);
        Expect.sentence("Promise 7", "How many links there are", "none", OrderEdgeTest::noLinks);
        Expect.sentence("Promise 7", "How many links there are", "told twice",
                OrderEdgeTest::linksToldTwice);
        Expect.sentence("Promise 7", "How many links there are", "the most", OrderEdgeTest::mostLinks);
        Expect.sentence("Promise 7", "How many links there are", "refused and undone relations",
                OrderEdgeTest::linksOfRefusedAndUndone);
        Expect.sentence("Promise 8", "Link k: the upper one's number (0) or the lower one's (1)",
                OrderEdgeTest::firstAndLastLink);
        Expect.sentence("Promise 8", "IndexOutOfBoundsException", "no such link",
                OrderEdgeTest::linkOfNothing);
        Expect.sentence("Promise 8", "IndexOutOfBoundsException", "neither 0 nor 1",
                OrderEdgeTest::linkHasTwoEnds);
        Expect.sentence("Promise 9", "The number of the joined one of a context",
                OrderEdgeTest::equalOfOne);
        Expect.sentence("Promise 9", "IndexOutOfBoundsException", OrderEdgeTest::equalOfNothing);
        Expect.sentence("Promise 10", "told to be contemporary", OrderEdgeTest::contemporaryAsTold);
        Expect.sentence("Promise 10", "(or any joined with them)",
                OrderEdgeTest::contemporaryByJoinedOnes);
        Expect.sentence("Promise 10", "or are joined", OrderEdgeTest::contemporaryIfJoined);
        Expect.sentence("Promise 10", "IndexOutOfBoundsException", OrderEdgeTest::contemporaryOfNothing);
        Expect.sentence("Promise 11", "The longest way down", "none above it",
                OrderEdgeTest::longestOfNone);
        Expect.sentence("Promise 11", "how many others lie one over the other above it",
                OrderEdgeTest::longestOneOverTheOther);
        Expect.sentence("Promise 11", "The longest way down to a context's joined one",
                OrderEdgeTest::longestOfJoinedOnes);
        Expect.sentence("Promise 11", "The longest way down", "of all", OrderEdgeTest::longestOfAll);
        Expect.sentence("Promise 11", "IndexOutOfBoundsException", OrderEdgeTest::longestOfNothing);
        Expect.end();
    }

    private static void orderOfTheFarthest() {
        Dig x = Dig.of(48);
        x.chain(0, 47);
        for (int c = 1; c < 48; c++) {
            Expect.same("order(0, " + c + ")", 1, x.order(0, c));
            Expect.same("order(" + c + ", 0)", -1, x.order(c, 0));
            Expect.same("order(47, " + (c - 1) + ")", -1, x.order(47, c - 1));
        }
        x.undo(31);
        Expect.same("above the gap", 1, x.order(0, 31));
        Expect.same("below the gap", 1, x.order(32, 47));
        Expect.same("over the gap", 0, x.order(0, 32));
        Expect.same("over the gap, back", 0, x.order(47, 31));
        x.above(31, 47);
        Expect.same("over another way", 1, x.order(0, 47));
        Expect.same("that does not go by 32", 0, x.order(31, 32));
    }

    private static void orderOfNeither() {
        Dig x = Dig.of(8);
        Expect.same("of two that nothing is told of", 0, x.order(0, 1));
        for (int c = 0; c < 8; c++) {
            Expect.same("with itself", 0, x.order(c, c));
        }
        x.above(0, 1, 0, 2, 3, 1);
        Expect.same("of two that are under one", 0, x.order(1, 2));
        Expect.same("of two that are over one", 0, x.order(0, 3));
        Expect.same("of two that are not even so much", 0, x.order(2, 3));
        x.told(4, 1, EQUAL);
        Expect.same("of two that are one", 0, x.order(4, 1));
        Expect.same("of two that are one, back", 0, x.order(1, 4));
        x.told(5, 6, CONTEMPORARY);
        Expect.same("of contemporary ones", 0, x.order(5, 6));
        x.relate(1, 0, ABOVE);
        Expect.same("a refused one turns nothing round", 1, x.order(0, 1));
        x.undo(0);
        Expect.same("an undone one leaves neither", 0, x.order(0, 4));
    }

    private static void orderOfNothing() {
        Dig x = Dig.of(7);
        x.above(0, 6);
        for (int c : NO_CONTEXT) {
            Expect.noPlace("order(" + c + ", 0)", () -> x.order(c, 0));
            Expect.noPlace("order(0, " + c + ")", () -> x.order(0, c));
            Expect.noPlace("order of it with itself", () -> x.order(c, c));
        }
        x.context();
        Expect.same("a context that came later", 0, x.order(0, 7));
    }

    private static void noLinks() {
        Dig x = new Dig();
        Expect.same("without contexts", 0, x.links());
        x.contexts(0, 48);
        Expect.same("without relations", 0, x.links());
        x.told(0, 1, EQUAL);
        x.told(2, 3, CONTEMPORARY);
        Expect.same("without order", 0, x.links());
        x.relate(0, 1, ABOVE);
        x.relate(4, 4, ABOVE);
        Expect.same("with refused ones", 0, x.links());
        x.above(4, 5);
        Expect.same("with one", 1, x.links());
        x.undo(2);
        Expect.same("with an undone one", 0, x.links());
    }

    private static void linksToldTwice() {
        Dig x = Dig.of(6);
        x.told(0, 1, ABOVE);
        x.told(0, 1, CUTS);
        x.told(0, 1, FILLS);
        Expect.same("told by three kinds", 1, x.links());
        x.above(2, 3);
        Expect.same("another one", 2, x.links());
        x.told(0, 2, EQUAL);
        Expect.same("of one upper one", 2, x.links());
        x.told(1, 3, EQUAL);
        x.linksAre("both are one now", 0, 1);
        x.above(4, 0, 4, 1, 4, 3);
        x.linksAre("what follows anyway is none", 0, 1, 4, 0);
    }

    private static void mostLinks() {
        Dig x = Dig.of(29);
        for (int r = 0; r < 200; r++) {
            x.told(r / 15, 14 + r % 15, ABOVE);
        }
        Expect.same("links()", 200, x.links());
        for (int k = 0; k < 200; k++) {
            Expect.same("link(" + k + ", 1)", 14 + k % 15, x.link(k, 1));
        }
        for (int k = 0; k < 200; k += 7) {
            Expect.same("link(" + k + ", 0)", k / 15, x.link(k, 0));
        }
        Expect.same("the last one", 13, x.link(199, 0));
        Expect.noPlace("behind the last one", () -> x.link(200, 0));
        Dig all = Dig.of(20);
        for (int a = 0; a < 20; a++) {
            for (int b = a + 1; b < 20; b++) {
                all.told(a, b, FILLS);
            }
        }
        Expect.same("all pairs are told", 190, all.count(3));
        Expect.same("but few links tell them", 19, all.links());
        Expect.same("the last of these", 18, all.link(18, 0));
    }

    private static void linksOfRefusedAndUndone() {
        Dig x = Dig.of(4);
        x.above(0, 1, 1, 2, 0, 2);
        x.linksAre("three told", 0, 1, 1, 2);
        x.refused(2, 0, ABOVE, 2, 0);
        x.refused(2, 1, EQUAL, 1, 2);
        x.linksAre("after refused ones", 0, 1, 1, 2);
        x.undo(1);
        x.linksAre("what was hidden is back", 0, 1, 0, 2);
        x.undo(1);
        x.linksAre("undone once", 0, 1, 0, 2);
        x.undo(2);
        x.linksAre("one is left", 0, 1);
        x.undo(0);
        x.linksAre("none is left");
    }

    private static void firstAndLastLink() {
        Dig x = Dig.of(48);
        x.above(47, 0);
        Expect.same("the upper one", 47, x.link(0, 0));
        Expect.same("the lower one", 0, x.link(0, 1));
        x.above(0, 46, 0, 1);
        x.linksAre("three", 0, 1, 0, 46, 47, 0);
        x.told(47, 2, EQUAL);
        x.told(46, 40, EQUAL);
        x.linksAre("by their numbers", 0, 1, 0, 40, 2, 0);
    }

    private static void linkOfNothing() {
        Dig x = Dig.of(4);
        Expect.noPlace("without links: link(0, 0)", () -> x.link(0, 0));
        Expect.noPlace("without links: link(0, 1)", () -> x.link(0, 1));
        x.above(0, 1, 1, 2);
        for (int k : new int[] {Integer.MIN_VALUE, -1, 2, 3, 200, Integer.MAX_VALUE}) {
            Expect.noPlace("link(" + k + ", 0)", () -> x.link(k, 0));
            Expect.noPlace("link(" + k + ", 1)", () -> x.link(k, 1));
        }
        Expect.same("the last one", 2, x.link(1, 1));
        x.undo(1);
        Expect.noPlace("an undone one", () -> x.link(1, 1));
        x.above(0, 2, 0, 3);
        Expect.same("a later one", 3, x.link(2, 1));
    }

    private static void linkHasTwoEnds() {
        Dig x = Dig.of(2);
        for (int which : new int[] {Integer.MIN_VALUE, -1, 2, 3, Integer.MAX_VALUE}) {
            Expect.noPlace("without links: link(0, " + which + ")", () -> x.link(0, which));
        }
        x.above(1, 0);
        for (int which : new int[] {Integer.MIN_VALUE, -1, 2, 3, Integer.MAX_VALUE}) {
            Expect.noPlace("link(0, " + which + ")", () -> x.link(0, which));
            Expect.noPlace("link(1, " + which + ")", () -> x.link(1, which));
            Expect.noPlace("link(-1, " + which + ")", () -> x.link(-1, which));
        }
        x.linksAre("the link stays", 1, 0);
    }

    private static void equalOfOne() {
        Dig x = Dig.of(48);
        for (int c = 0; c < 48; c++) {
            Expect.same("alone: equal(" + c + ")", c, x.equal(c));
        }
        x.told(7, 7, EQUAL);
        Expect.same("joined with itself alone", 7, x.equal(7));
        x.told(47, 31, EQUAL);
        x.told(32, 47, EQUAL);
        Expect.same("31", 31, x.equal(31));
        Expect.same("32, by 47", 31, x.equal(32));
        Expect.same("47", 31, x.equal(47));
        x.above(7, 31);
        x.relate(7, 32, EQUAL);
        Expect.same("a refused one joins nothing", 31, x.equal(32));
        Expect.same("nor its other one", 7, x.equal(7));
        x.undo(1);
        Expect.same("split off", 31, x.equal(31));
        Expect.same("the rest has its own least", 32, x.equal(47));
        x.told(8, 9, CONTEMPORARY);
        Expect.same("contemporary ones are not joined", 9, x.equal(9));
    }

    private static void equalOfNothing() {
        Dig x = Dig.of(7);
        for (int c : NO_CONTEXT) {
            Expect.noPlace("equal(" + c + ")", () -> x.equal(c));
        }
        x.context();
        Expect.same("a context that came later", 7, x.equal(7));
    }

    private static void contemporaryAsTold() {
        Dig x = Dig.of(48);
        Expect.no("nothing told", x.contemporary(0, 1));
        x.told(47, 32, CONTEMPORARY);
        Expect.yes("as told", x.contemporary(47, 32));
        Expect.yes("the other way round", x.contemporary(32, 47));
        x.told(32, 0, CONTEMPORARY);
        Expect.no("not by others", x.contemporary(47, 0));
        x.above(47, 1);
        Expect.no("not those in order with it", x.contemporary(32, 1));
        x.above(32, 47);
        Expect.yes("those in order with one another, if told", x.contemporary(32, 47));
        x.undo(0);
        Expect.no("not any more", x.contemporary(47, 32));
        Expect.yes("the other one still", x.contemporary(0, 32));
    }

    private static void contemporaryByJoinedOnes() {
        Dig x = Dig.of(8);
        x.told(1, 2, CONTEMPORARY);
        x.told(0, 1, EQUAL);
        Expect.yes("one side", x.contemporary(0, 2));
        Expect.yes("one side, back", x.contemporary(2, 0));
        x.told(2, 7, EQUAL);
        x.told(7, 6, EQUAL);
        Expect.yes("both sides", x.contemporary(0, 6));
        Expect.yes("both sides, back", x.contemporary(6, 0));
        Expect.yes("one with two joined ones between", x.contemporary(1, 6));
        x.undo(2);
        Expect.no("not joined any more", x.contemporary(0, 6));
        Expect.yes("those are", x.contemporary(0, 2));
        x.told(4, 4, CONTEMPORARY);
        Expect.no("told of one with itself", x.contemporary(4, 5));
    }

    private static void contemporaryIfJoined() {
        Dig x = Dig.of(5);
        Expect.yes("one with itself", x.contemporary(3, 3));
        x.told(0, 4, EQUAL);
        x.told(4, 2, EQUAL);
        Expect.yes("told equal", x.contemporary(4, 0));
        Expect.yes("equal by others", x.contemporary(0, 2));
        Expect.no("another one", x.contemporary(0, 3));
        x.undo(1);
        Expect.no("not any more", x.contemporary(0, 2));
        x.above(2, 3);
        x.relate(2, 3, EQUAL);
        Expect.no("a refused one does not join", x.contemporary(2, 3));
    }

    private static void contemporaryOfNothing() {
        Dig x = Dig.of(7);
        x.told(0, 6, CONTEMPORARY);
        for (int c : NO_CONTEXT) {
            Expect.noPlace("contemporary(" + c + ", 0)", () -> x.contemporary(c, 0));
            Expect.noPlace("contemporary(0, " + c + ")", () -> x.contemporary(0, c));
            Expect.noPlace("contemporary of it with itself", () -> x.contemporary(c, c));
        }
        x.context();
        Expect.no("a context that came later", x.contemporary(0, 7));
    }

    private static void longestOfNone() {
        Dig x = Dig.of(4);
        Expect.same("nothing told", 0, x.longest(0));
        x.above(0, 1);
        Expect.same("only others below it", 0, x.longest(0));
        x.told(2, 3, CONTEMPORARY);
        x.told(0, 2, EQUAL);
        Expect.same("contemporary ones are not above", 0, x.longest(3));
        Expect.same("nor are joined ones", 0, x.longest(2));
        x.undo(0);
        Expect.same("nor are undone ones", 0, x.longest(1));
        x.relate(1, 1, ABOVE);
        Expect.same("nor are refused ones", 0, x.longest(1));
    }

    private static void longestOneOverTheOther() {
        Dig x = Dig.of(10);
        x.above(0, 9, 1, 9, 2, 9);
        Expect.same("three beside each other", 1, x.longest(9));
        x.above(3, 2, 4, 3);
        Expect.same("three one over the other", 3, x.longest(9));
        x.above(4, 9);
        Expect.same("a short cut", 3, x.longest(9));
        x.above(0, 1, 2, 1);
        Expect.same("through 1", 4, x.longest(9));
        Expect.same("1 itself", 3, x.longest(1));
        x.undo(3);
        Expect.same("without 3 over 2", 2, x.longest(9));
    }

    private static void longestOfJoinedOnes() {
        Dig x = Dig.of(8);
        x.above(0, 1, 2, 3);
        x.told(1, 2, EQUAL);
        Expect.same("joined ones are one on the way", 2, x.longest(3));
        x.told(7, 3, EQUAL);
        Expect.same("a context's joined one", 2, x.longest(7));
        x.told(4, 1, EQUAL);
        x.told(5, 2, EQUAL);
        Expect.same("four that are one", 2, x.longest(7));
        Expect.same("one of these", 1, x.longest(5));
        x.undo(2);
        Expect.same("split", 1, x.longest(7));
        Expect.same("the upper half", 1, x.longest(4));
        Expect.same("the lower half", 0, x.longest(5));
    }

    private static void longestOfAll() {
        Dig x = Dig.of(48);
        x.above(47, 0);
        x.chain(0, 46);
        for (int c = 0; c < 47; c++) {
            Expect.same("longest(" + c + ")", c + 1, x.longest(c));
        }
        Expect.same("the upmost", 0, x.longest(47));
        x.undo(0);
        Expect.same("one less", 46, x.longest(46));
        x.undo(32);
        Expect.same("broken", 14, x.longest(46));
        Expect.same("right below the gap", 0, x.longest(32));
    }

    private static void longestOfNothing() {
        Dig x = Dig.of(7);
        for (int c : NO_CONTEXT) {
            Expect.noPlace("longest(" + c + ")", () -> x.longest(c));
        }
        x.context();
        Expect.same("a context that came later", 0, x.longest(7));
    }
}
