/** The boundary cases in "What it is", "The public face" and "Terms", each under its own words. */
public final class TermsBoundaryTest {
    private static final int NONE = -1;
    private static final int THROWS = Counted.THROWS;

    private final Check check = new Check();

    public static void main(String[] args) {
        TermsBoundaryTest test = new TermsBoundaryTest();
        test.atMost512Calls();
        test.valueOfNone();
        test.blocks0To39();
        test.upTo4Targets();
        test.fourTargetsOfEachBlock();
        test.orderOfTargets();
        test.toldAgainCountsOnce();
        test.withoutTargetsIsAnEnd();
        test.anyNumberOfTimes();
        test.noneToo();
        test.targetNotToldIsNoWay();
        test.reachedItselfIfTold();
        test.goodBlocks();
        test.overBothReached();
        test.overItself();
        test.zeroHasNoLid();
        test.behindBothGood();
        test.behindItself();
        test.thereMayBeNoMeeting();
        test.headIsOverItsSource();
        test.roundOfReachedBlocks();
        test.theseToo();
        test.notThroughTheHead();
        test.depthIsANumber();
        test.plain();
        test.edgeOrIsX();
        test.hangsOrIsB();
        test.hangsGood();
        test.check.end();
    }

    private static int[] row(int... blockAndTargets) {
        return Counted.row(blockAndTargets);
    }

    private static Counted graph(int[]... rows) {
        return Counted.graph(rows);
    }

    /** 0, 39, 38, .. 2, 1 with the round 39 .. 2, after 511 calls of all kinds. */
    private static Counted worn() {
        Counted ways = Graphs.chain();
        ways.target(2, 39);
        while (ways.calls() + 7 <= Counted.MOST_CALLS - 1) {
            ways.drop(1);
            ways.block(1);
            ways.count(4);
            ways.inner(0);
            ways.target(2, 40);
            ways.joins(-1L);
            ways.meeting(20);
        }
        while (ways.calls() < Counted.MOST_CALLS - 1) {
            ways.count(6);
        }
        return ways;
    }

    private void atMost512Calls() {
        check.at("What it is", "An object is used for at most 512 calls after it has been made");
        check.due("calls so far", worn().calls(), 511);
        check.due("512th call: block(1)", worn().block(1), false);
        check.due("512th call: target(1, 0)", worn().target(1, 0), true);
        check.due("512th call: target(40, 0)", worn().target(40, 0), false);
        check.due("512th call: drop(1)", worn().drop(1), true);
        check.due("512th call: count(0)", worn().count(0), 40);
        check.due("512th call: count(1)", worn().count(1), 40);
        check.due("512th call: count(2)", worn().count(2), 40);
        check.due("512th call: lid(1)", worn().lid(1), 2);
        check.due("512th call: meeting(0)", worn().meeting(0), 39);
        check.due("512th call: set(2, 39)", worn().set(2, 39), Check.span(2, 39));
        check.due("512th call: set(1, 0)", worn().set(1, 0), Check.ALL);
        check.due("512th call: depth(20)", worn().depth(20), 1);
        check.due("512th call: inner(20)", worn().inner(20), 39);
        check.due("512th call: inner(1)", worn().inner(1), THROWS);
        check.due("512th call: joins of 20", worn().joins(Check.bits(20)), Check.bits(39));
    }

    private void valueOfNone() {
        check.at("The public face", "public static final int NONE = -1;");
        check.due("NONE", BlockWays.NONE, -1);
        check.due("lid(0) of a new object", new Counted().lid(0), -1);
    }

    private void blocks0To39() {
        check.at("Terms", "BLOCKS 0 .. 39, each of which is told or not");
        Counted ways = new Counted();
        check.due("block(-1)", ways.block(-1), false);
        check.due("block(40)", ways.block(40), false);
        check.due("count(0)", ways.count(0), 0);
        check.due("block(0)", ways.block(0), true);
        check.due("block(39)", ways.block(39), true);
        check.due("count(0)", ways.count(0), 2);
        check.due("target(0, 40)", ways.target(0, 40), false);
        check.due("target(0, -1)", ways.target(0, -1), false);
        check.due("target(39, 0)", ways.target(39, 0), true);
        check.due("target(0, 39)", ways.target(0, 39), true);
        check.due("lid(39)", ways.lid(39), 0);
        check.due("drop(40)", ways.drop(40), false);
        check.due("drop(39)", ways.drop(39), true);
        check.counts("all 40 told", Graphs.chain(), 40, 40, 40, 0, 0, 1);
    }

    private void upTo4Targets() {
        check.at("Terms", "with up to 4 TARGETS");
        Counted ways = graph(row(0), row(1), row(2), row(3), row(4), row(39));
        for (int to = 1; to <= 4; to++) {
            check.due("count(1)", ways.count(1), to);
            check.due("target(0, " + to + ")", ways.target(0, to), true);
        }
        check.due("target(0, 39)", ways.target(0, 39), false);
        check.due("set(5, 0), the four and 0", ways.set(5, 0), Check.span(0, 4));
        check.due("the fourth's lid", ways.lid(4), 0);
        check.due("the fifth's lid", ways.lid(39), NONE);
        check.due("set(4, 4), hangs on 0", ways.set(4, 4), 1L);
    }

    private void fourTargetsOfEachBlock() {
        check.at("Terms", "with up to 4 TARGETS");
        Counted ring = Graphs.ring();
        for (int b = 0; b < 40; b++) {
            check.due("ring: target(" + b + ", " + b + "), a fifth", ring.target(b, b), false);
        }
        check.counts("ring", ring, 40, 40, 0, 1, 1, 0);
        for (int b = 1; b < 40; b++) {
            check.due("ring: lid(" + b + ")", ring.lid(b), 0);
        }
        check.due("ring: set(2, 0)", ring.set(2, 0), Check.ALL);
        check.due("ring: set(3, 0)", ring.set(3, 0), 1L);
        check.due("ring: set(3, 20)", ring.set(3, 20), Check.span(21, 24));
        check.due("ring: set(3, 38)", ring.set(3, 38), Check.bits(39, 0, 1, 2));
        check.due("ring: joins of 0", ring.joins(1L), 1L);
        check.due("ring: joins of 1", ring.joins(2L), Check.ALL);
    }

    private void orderOfTargets() {
        check.at("Terms", "blocks, in the order in which they were told");
        Counted turned = graph(row(5), row(4, 1), row(3, 4, 2), row(2, 3), row(1, 5, 2), row(0, 1));
        check.compare("nested, told in another order", turned, Graphs.nested());
    }

    private void toldAgainCountsOnce() {
        check.at("Terms", "one may be told again, and counts once");
        Counted once = Graphs.nested();
        Counted again = graph(row(0, 1, 1, 1, 1), row(1, 2, 5, 2, 5), row(2, 3, 3), row(3, 2, 4, 4, 2), row(4, 1, 1, 1), row(5));
        check.compare("nested, with targets told again", again, once);
        Counted two = graph(row(0, 1, 1), row(1, 0, 0, 2, 2), row(2));
        check.counts("0 and 1 in a round", two, 3, 3, 3, 1, 1, 1);
        check.due("depth(1)", two.depth(1), 1);
        check.due("meeting(0)", two.meeting(0), 1);
        check.due("set(4, 2), hangs on none", two.set(4, 2), 0L);
    }

    private void withoutTargetsIsAnEnd() {
        check.at("Terms", "One without TARGETS is an END.");
        Counted ways = graph(row(0));
        check.due("an END alone: count(2)", ways.count(2), 1);
        check.due("an END alone: set(1, 0)", ways.set(1, 0), 1L);
        ways.target(0, 1);
        check.due("its TARGET not told, no END: count(2)", ways.count(2), 0);
        check.due("its TARGET not told, no END: set(1, 0)", ways.set(1, 0), 0L);
        ways.block(1);
        check.due("its TARGET an END: count(2)", ways.count(2), 2);
        ways.target(1, 1);
        check.due("itself as TARGET, no END: count(2)", ways.count(2), 0);
        ways.drop(1);
        check.due("its only TARGET dropped, no END: count(2)", ways.count(2), 0);
        check.due("a block not told, without TARGETS, is not GOOD: set(1, 1)", ways.set(1, 1), 0L);
        ways.block(1);
        check.due("told again without TARGETS: count(2)", ways.count(2), 2);
        Counted all = new Counted();
        for (int b = 0; b < 40; b++) {
            all.block(b);
        }
        check.counts("40 ENDs", all, 40, 1, 40, 0, 0, 1);
    }

    private void anyNumberOfTimes() {
        check.at("Terms", "and so on, any number of times");
        Counted chain = Graphs.chain();
        check.due("39 steps: set(0, 1)", chain.set(0, 1), Check.ALL);
        check.due("39 steps: set(1, 0)", chain.set(1, 0), Check.ALL);
        check.due("39 steps: count(1)", chain.count(1), 40);
        check.due("39 steps: count(2)", chain.count(2), 40);
        chain.drop(20);
        check.due("broken at 20: count(1)", chain.count(1), 20);
        check.due("broken at 20: count(2)", chain.count(2), 19);
    }

    private void noneToo() {
        check.at("Terms", "any number of times (none, too)");
        Counted ways = graph(row(0, 0), row(7));
        check.due("0 is REACHED without a step: count(1)", graph(row(0)).count(1), 1);
        check.due("0 is REACHED without a step: depth(0)", graph(row(0)).depth(0), 0);
        check.due("an END is GOOD without a step: set(1, 7)", ways.set(1, 7), Check.bits(7));
        check.due("an END is GOOD without a step: count(2)", ways.count(2), 1);
    }

    private void targetNotToldIsNoWay() {
        check.at("Terms", "What a TARGET that is not told would lead to is no WAY.");
        Counted ways = graph(row(0, 1, 9), row(1, 9), row(2));
        check.counts("9 not told", ways, 3, 2, 1, 0, 0, 1);
        check.due("lid(9)", ways.lid(9), NONE);
        check.due("depth(9)", ways.depth(9), NONE);
        check.due("set(5, 0)", ways.set(5, 0), 3L);
        check.due("set(3, 1), 9 is on no EDGE", ways.set(3, 1), 0L);
        Counted gap = graph(row(0, 1), row(1, 2, 0), row(2));
        gap.drop(1);
        check.counts("1 dropped between 0 and 2", gap, 2, 1, 1, 0, 0, 1);
        check.due("1 dropped: set(0, 2)", gap.set(0, 2), 0L);
        check.due("1 dropped: meeting(0)", gap.meeting(0), NONE);
        check.due("1 dropped: set(2, 0), no round over it", gap.set(2, 0), 0L);
        Counted aside = graph(row(0, 1, 5), row(1, 3, 5), row(3));
        check.due("a TARGET not told parts no ways: meeting(0)", aside.meeting(0), 1);
        check.due("a TARGET not told parts no ways: set(4, 3)", aside.set(4, 3), 0L);
    }

    private void reachedItselfIfTold() {
        check.at("Terms", "REACHED are the blocks to which a WAY leads from block 0 (itself, if it is told).");
        Counted ways = graph(row(1, 0, 2), row(2, 1));
        check.counts("0 not told", ways, 2, 0, 0, 0, 0, 1);
        check.due("0 not told: set(0, 0)", ways.set(0, 0), 0L);
        check.due("0 not told: set(5, 0)", ways.set(5, 0), 0L);
        check.due("0 not told: depth(0)", ways.depth(0), NONE);
        check.due("0 not told: depth(1)", ways.depth(1), NONE);
        check.due("0 not told: inner(1)", ways.inner(1), THROWS);
        ways.block(0);
        check.counts("0 told", ways, 3, 1, 3, 0, 0, 1);
        check.due("0 told: depth(0)", ways.depth(0), 0);
        ways.target(0, 1);
        check.counts("0 told and leads to 1", ways, 3, 3, 0, 2, 2, 1);
        ways.drop(0);
        check.due("0 dropped: count(1)", ways.count(1), 0);
    }

    private void goodBlocks() {
        check.at("Terms", "GOOD are the blocks from which a WAY leads to an END.");
        check.due("no END: count(2)", graph(row(0, 1), row(1, 0)).count(2), 0);
        Counted ways = graph(row(0, 0), row(5, 6), row(6));
        check.due("GOOD, not REACHED: set(1, 5)", ways.set(1, 5), Check.bits(5, 6));
        check.due("GOOD, not REACHED: meeting(5)", ways.meeting(5), 6);
        check.due("REACHED, not GOOD: set(1, 0)", ways.set(1, 0), 0L);
        check.due("REACHED, not GOOD: set(0, 0)", ways.set(0, 0), 1L);
        check.due("count(2)", ways.count(2), 2);
    }

    private void overBothReached() {
        check.at("Terms", "block d is OVER b, both REACHED");
        Counted ways = graph(row(0, 1), row(1), row(2, 1, 3), row(3, 3));
        check.due("2 leads to 1 but is not REACHED: set(0, 1)", ways.set(0, 1), 3L);
        check.due("2 leads to 1 but is not REACHED: lid(1)", ways.lid(1), 0);
        check.due("3 is not REACHED: set(0, 3)", ways.set(0, 3), 0L);
        check.due("3 is not REACHED: set(5, 3)", ways.set(5, 3), 0L);
        check.due("2 is not REACHED: set(5, 2)", ways.set(5, 2), 0L);
        check.due("only REACHED ones: set(5, 0)", ways.set(5, 0), 3L);
    }

    private void overItself() {
        check.at("Terms", "(b is OVER itself)");
        Counted tangle = Graphs.tangle();
        check.sets("tangle", tangle, 0, 1L, 3L, 5L, Check.bits(0, 2, 3));
        check.sets("tangle", tangle, 5, 15L, 2L, 12L, 8L);
        check.due("0 alone: set(0, 0)", graph(row(0)).set(0, 0), 1L);
        check.due("0 alone: set(5, 0)", graph(row(0)).set(5, 0), 1L);
    }

    private void zeroHasNoLid() {
        check.at("Terms", "(0 has none)");
        check.due("0 alone: lid(0)", graph(row(0)).lid(0), NONE);
        check.due("0 to itself: lid(0)", graph(row(0, 0)).lid(0), NONE);
        Counted round = graph(row(0, 1), row(1, 2), row(2, 0));
        check.due("0 in a round: lid(0)", round.lid(0), NONE);
        check.due("0 in a round: set(0, 0)", round.set(0, 0), 1L);
        check.due("b itself is not its LID: lid(1)", graph(row(0, 1), row(1, 1)).lid(1), 0);
    }

    private void behindBothGood() {
        check.at("Terms", "d is BEHIND b, both GOOD");
        Counted ways = graph(row(0, 1, 2), row(1), row(2, 2), row(3, 9));
        check.due("2 is not GOOD: set(1, 0)", ways.set(1, 0), 3L);
        check.due("2 is not GOOD: set(1, 2)", ways.set(1, 2), 0L);
        check.due("2 is not GOOD: meeting(0)", ways.meeting(0), 1);
        check.due("3 leads to no END: set(1, 3)", ways.set(1, 3), 0L);
    }

    private void behindItself() {
        check.at("Terms", "(b is BEHIND itself)");
        Counted ways = graph(row(0, 1, 2), row(1), row(2, 39), row(39));
        check.due("two ENDs: set(1, 0)", ways.set(1, 0), 1L);
        check.due("an END: set(1, 1)", ways.set(1, 1), 2L);
        check.due("an END: set(1, 39)", ways.set(1, 39), 1L << 39);
        check.due("ahead of an END: set(1, 2)", ways.set(1, 2), Check.bits(2, 39));
    }

    private void thereMayBeNoMeeting() {
        check.at("Terms", "there may be none");
        Counted ways = graph(row(0, 1, 2), row(1, 3), row(2, 4), row(3), row(4));
        check.due("two ENDs: meeting(0)", ways.meeting(0), NONE);
        check.due("an END: meeting(3)", ways.meeting(3), NONE);
        check.due("one END: meeting(1)", ways.meeting(1), 3);
        check.due("b itself is not its MEETING", graph(row(0, 0, 1), row(1)).meeting(0), 1);
        Counted meet = graph(row(0, 1, 2), row(1, 3), row(2, 3), row(3, 4, 5), row(4), row(5));
        check.due("met before the ENDs part: meeting(0)", meet.meeting(0), 3);
        check.due("the ENDs part: meeting(3)", meet.meeting(3), NONE);
    }

    private void headIsOverItsSource() {
        check.at("Terms", "A ROUND has a HEAD h, if a REACHED block has h as TARGET that is OVER it.");
        Counted tangle = Graphs.tangle();
        check.due("1 and 2 are not OVER one another: count(3)", tangle.count(3), 0);
        check.sets("tangle", tangle, 2, 0L, 0L, 0L, 0L);
        Counted ways = graph(row(0, 1), row(1, 2), row(2), row(5, 1, 5));
        check.due("5 is not REACHED: count(3)", ways.count(3), 0);
        check.due("5 is not REACHED: set(2, 5)", ways.set(2, 5), 0L);
        check.due("5 is not REACHED: set(2, 1)", ways.set(2, 1), 0L);
        ways.target(2, 5);
        check.due("5 is REACHED now: set(2, 1)", ways.set(2, 1), Check.bits(1, 2, 5));
        check.due("5 is REACHED now: set(2, 5)", ways.set(2, 5), Check.bits(5));
        check.due("h OVER itself: set(2, 0)", graph(row(0, 0)).set(2, 0), 1L);
    }

    private void roundOfReachedBlocks() {
        check.at("Terms", "The ROUND are h and all REACHED blocks from which a WAY that does not go through h leads to such a one");
        Counted ways = graph(row(0, 1), row(1, 2, 4), row(2, 3, 5), row(3, 1), row(4), row(5), row(6, 3));
        check.due("not 6, not REACHED; not 4 and 5, which lead not back: set(2, 1)", ways.set(2, 1), Check.bits(1, 2, 3));
        check.due("depth(5)", ways.depth(5), 0);
        check.due("depth(6)", ways.depth(6), NONE);
        Counted all = Graphs.deepest();
        for (int h = 0; h < 40; h++) {
            check.due("40 rounds: set(2, " + h + ")", all.set(2, h), Check.span(h, 39));
        }
    }

    private void theseToo() {
        check.at("Terms", "leads to such a one (these, too)");
        Counted ways = graph(row(0, 1, 2), row(1, 0), row(2, 0, 3), row(3));
        check.due("two that close it: set(2, 0)", ways.set(2, 0), 7L);
        check.due("two that close one ROUND: count(3)", ways.count(3), 1);
        check.due("two that close one ROUND: depth(0)", ways.depth(0), 1);
        check.due("the HEAD closes it alone: set(2, 1)", graph(row(0, 1), row(1, 1, 2), row(2)).set(2, 1), 2L);
    }

    private void notThroughTheHead() {
        check.at("Terms", "a WAY that does not go through h");
        Counted ways = graph(row(0, 1), row(1, 1, 2), row(2, 0));
        check.due("0 and 2 come to 1 only through 1: set(2, 1)", ways.set(2, 1), 2L);
        check.due("set(2, 0)", ways.set(2, 0), 7L);
        check.due("depth(1)", ways.depth(1), 2);
        check.due("depth(2)", ways.depth(2), 1);
        Counted both = graph(row(0, 1), row(1, 2, 3), row(2, 1), row(3, 0));
        check.due("3 comes to 2 only through 1: set(2, 1)", both.set(2, 1), Check.bits(1, 2));
    }

    private void depthIsANumber() {
        check.at("Terms", "The DEPTH of a block is the number of ROUNDS in which it is.");
        Counted all = Graphs.deepest();
        for (int b = 0; b < 40; b++) {
            check.due("40 rounds: depth(" + b + ")", all.depth(b), b + 1);
        }
        check.due("40 rounds: count(4)", all.count(4), 40);
        check.due("no round: depth(1)", Graphs.tangle().depth(1), 0);
        Counted apart = graph(row(0, 1), row(1, 1, 2), row(2, 2, 3), row(3, 3));
        check.due("three rounds apart: count(3)", apart.count(3), 3);
        check.due("three rounds apart: count(4)", apart.count(4), 1);
        check.due("three rounds apart: depth(0)", apart.depth(0), 0);
    }

    private void plain() {
        check.at("Terms", "Blocks are PLAIN if, without the steps from blocks to HEADS OVER them, no REACHED block leads back to itself.");
        check.due("no block: count(5)", new Counted().count(5), 1);
        check.due("0 alone: count(5)", graph(row(0)).count(5), 1);
        check.due("0 to itself: count(5)", graph(row(0, 0)).count(5), 1);
        check.due("40 rounds: count(5)", Graphs.deepest().count(5), 1);
        check.due("tangle: count(5)", Graphs.tangle().count(5), 0);
        Counted aside = graph(row(0), row(1, 2, 3), row(2, 3), row(3, 2));
        check.due("tangle not REACHED: count(5)", aside.count(5), 1);
        aside.target(0, 1);
        check.due("tangle REACHED: count(5)", aside.count(5), 0);
        aside.drop(2);
        check.due("tangle broken: count(5)", aside.count(5), 1);
        // 1 is a HEAD, of 1 itself alone: the step from 2 to 1 is not one to a HEAD OVER it.
        check.due("to a HEAD not OVER it: count(5)", graph(row(0, 1, 2), row(1, 1, 2), row(2, 1)).count(5), 0);
    }

    private void edgeOrIsX() {
        check.at("Terms", "if b is not OVER x, or is x");
        Counted self = graph(row(0, 0, 1), row(1));
        check.sets("0 to itself", self, 3, 1L, 0L);
        check.sets("no step", graph(row(0)), 3, 0L);
        Counted round = graph(row(0, 1), row(1, 2), row(2, 1, 3), row(3));
        check.sets("1 is OVER 2 and 3 and is 1", round, 3, 0L, 2L, 2L, 0L);
        Counted aside = graph(row(0, 1, 2), row(1, 3), row(2, 3, 9), row(3, 4), row(4), row(7, 4, 1));
        check.sets("4 not past 3, 7 not REACHED, 9 not told", aside, 3, 0L, 8L, 8L, 0L, 0L, 0L, 0L, 0L);
        Counted far = graph(row(0, 1, 4), row(1, 2), row(2, 3), row(3, 4), row(4));
        check.sets("the block that steps out is far under b", far, 3, 0L, 16L, 16L, 16L, 0L);
    }

    private void hangsOrIsB() {
        check.at("Terms", "and is not BEHIND b, or is b");
        Counted self = graph(row(0, 0, 1), row(1));
        check.sets("0 to itself", self, 4, 1L, 0L);
        check.sets("no step", graph(row(0)), 4, 0L);
        Counted round = graph(row(0, 1), row(1, 2), row(2, 1, 3), row(3));
        check.sets("2 decides on the round", round, 4, 0L, 4L, 4L, 0L);
        Counted branch = graph(row(0, 1, 2), row(1, 3), row(2, 3), row(3));
        check.sets("0 decides on 1 and 2, not on 3", branch, 4, 0L, 1L, 1L, 0L);
    }

    private void hangsGood() {
        check.at("Terms", "a GOOD x hangs on a GOOD b if x is BEHIND a GOOD TARGET of b");
        Counted ways = graph(row(0, 1, 2), row(1, 3), row(2, 2), row(3), row(5, 6, 7), row(6, 8), row(7, 8), row(8));
        check.sets("2 is not GOOD, 5 is not REACHED", ways, 4, 0L, 0L, 0L, 0L, 0L, 0L, 32L, 32L, 0L);
        check.due("9 not told: set(4, 1)", graph(row(0, 1, 9), row(1)).set(4, 1), 0L);
    }
}
