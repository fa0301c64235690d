/** The boundary cases of promises 5 to 11, each under its own words. */
public final class QuestionBoundaryTest {
    private static final int NONE = -1;
    private static final int THROWS = Counted.THROWS;

    private final Check check = new Check();

    public static void main(String[] args) {
        QuestionBoundaryTest test = new QuestionBoundaryTest();
        test.countFromNoneToAll();
        test.countAnotherWhat();
        test.lidHasNone();
        test.lidNotReached();
        test.lidNoBlock();
        test.meetingHasNone();
        test.meetingNotGood();
        test.meetingNoBlock();
        test.setAsBits();
        test.setAnotherWhat();
        test.setAnotherBlock();
        test.setNotReached();
        test.setNotGood();
        test.setNoHead();
        test.depthOfReached();
        test.depthOfOthers();
        test.innerFewestBlocks();
        test.innerInNone();
        test.innerNotReached();
        test.innerNoBlock();
        test.joinsOfNone();
        test.joinsBitsAbove39();
        test.joinsOthersDontCount();
        test.joinsAndSoOn();
        test.questionsChangeNothing();
        test.check.end();
    }

    private static int[] row(int... blockAndTargets) {
        return Counted.row(blockAndTargets);
    }

    private static Counted graph(int[]... rows) {
        return Counted.graph(rows);
    }

    /** 1 and 2 are REACHED and not GOOD; 4 and 5 are GOOD and not REACHED; 9 is not told. */
    private static Counted apart() {
        return graph(row(0, 1, 9), row(1, 2), row(2, 1), row(4, 5, 4), row(5));
    }

    private static Counted fortyOf(boolean toThemselves, boolean inAChain) {
        Counted ways = new Counted();
        for (int b = 0; b < 40; b++) {
            ways.block(b);
            if (toThemselves) {
                ways.target(b, b);
            }
            if (inAChain && b < 39) {
                ways.target(b, b + 1);
            }
        }
        return ways;
    }

    private void countFromNoneToAll() {
        check.at("Promise 5", "0 blocks that are told, 1 REACHED, 2 GOOD, 3 ROUNDS, 4 the greatest DEPTH of a block, 5: 1 if they are PLAIN, else 0");
        check.counts("no block", new Counted(), 0, 0, 0, 0, 0, 1);
        check.counts("40 blocks, no step", fortyOf(false, false), 40, 1, 40, 0, 0, 1);
        check.counts("40 blocks, each to itself", fortyOf(true, false), 40, 1, 0, 1, 1, 1);
        check.counts("40 blocks in a chain", fortyOf(false, true), 40, 40, 40, 0, 0, 1);
        check.counts("40 rounds side by side", fortyOf(true, true), 40, 40, 0, 40, 1, 1);
        check.counts("40 rounds within each other", Graphs.deepest(), 40, 40, 0, 40, 40, 1);
        check.counts("not PLAIN", Graphs.tangle(), 4, 4, 4, 0, 0, 0);
        check.counts("not PLAIN, 40 blocks", Graphs.ring(), 40, 40, 0, 1, 1, 0);
    }

    private void countAnotherWhat() {
        check.at("Promise 5", "NONE for another what");
        Counted nested = Graphs.nested();
        Counted fresh = new Counted();
        for (int what : Check.NO_WHATS) {
            check.due("count(" + what + ")", nested.count(what), NONE);
            check.due("count(" + what + ") of a new object", fresh.count(what), NONE);
        }
        check.counts("nested", nested, 6, 6, 6, 2, 2, 1);
    }

    private void lidHasNone() {
        check.at("Promise 6", "NONE: it has none");
        check.due("0 alone: lid(0)", graph(row(0)).lid(0), NONE);
        check.due("chain: lid(0)", Graphs.chain().lid(0), NONE);
        check.due("ring, all lead back to 0: lid(0)", Graphs.ring().lid(0), NONE);
        check.due("all others have one: lid(39)", Graphs.chain().lid(39), 0);
        check.due("all others have one: lid(1)", Graphs.chain().lid(1), 2);
    }

    private void lidNotReached() {
        check.at("Promise 6", "or is not REACHED");
        Counted apart = apart();
        check.due("REACHED: lid(2)", apart.lid(2), 1);
        check.due("not told: lid(3)", apart.lid(3), NONE);
        check.due("not REACHED: lid(4)", apart.lid(4), NONE);
        check.due("not REACHED: lid(5)", apart.lid(5), NONE);
        check.due("a TARGET of 0, not told: lid(9)", apart.lid(9), NONE);
        apart.drop(1);
        check.due("not REACHED any more: lid(2)", apart.lid(2), NONE);
        apart.drop(0);
        check.due("0 not told: lid(0)", apart.lid(0), NONE);
    }

    private void lidNoBlock() {
        check.at("Promise 6", "or no block");
        Counted chain = Graphs.chain();
        for (int b : Check.NO_BLOCKS) {
            check.due("lid(" + b + ")", chain.lid(b), NONE);
            check.due("lid(" + b + ") of a new object", new Counted().lid(b), NONE);
        }
    }

    private void meetingHasNone() {
        check.at("Promise 7", "NONE: it has none");
        check.due("an END: meeting(5)", Graphs.nested().meeting(5), NONE);
        check.due("an END: meeting(1)", Graphs.chain().meeting(1), NONE);
        check.due("an END's source: meeting(2)", Graphs.chain().meeting(2), 1);
        check.due("four ENDs: meeting(0)", graph(row(0, 1, 2, 3, 4), row(1), row(2), row(3), row(4)).meeting(0), NONE);
        check.due("four ways meet: meeting(0)", graph(row(0, 1, 2, 3, 39), row(1, 39), row(2, 39), row(3, 39), row(39)).meeting(0), 39);
    }

    private void meetingNotGood() {
        check.at("Promise 7", "or is not GOOD");
        Counted apart = apart();
        check.due("REACHED, not GOOD: meeting(0)", apart.meeting(0), NONE);
        check.due("REACHED, not GOOD: meeting(1)", apart.meeting(1), NONE);
        check.due("not told: meeting(3)", apart.meeting(3), NONE);
        check.due("not told: meeting(9)", apart.meeting(9), NONE);
        check.due("GOOD, not REACHED: meeting(4)", apart.meeting(4), 5);
        apart.drop(5);
        check.due("not GOOD any more: meeting(4)", apart.meeting(4), NONE);
    }

    private void meetingNoBlock() {
        check.at("Promise 7", "or no block");
        Counted chain = Graphs.chain();
        for (int b : Check.NO_BLOCKS) {
            check.due("meeting(" + b + ")", chain.meeting(b), NONE);
            check.due("meeting(" + b + ") of a new object", new Counted().meeting(b), NONE);
        }
    }

    private void setAsBits() {
        check.at("Promise 8", "As bits (block k is 2^k)");
        // Around the blocks 31 and 32 an int's bits would run out, and 39 is the last.
        Counted ways = graph(row(0, 31), row(31, 32), row(32, 33, 31), row(33, 39), row(39));
        check.due("set(0, 39)", ways.set(0, 39), 1L + (1L << 31) + (1L << 32) + (1L << 33) + (1L << 39));
        check.due("set(1, 31)", ways.set(1, 31), (1L << 31) + (1L << 32) + (1L << 33) + (1L << 39));
        check.due("set(2, 31)", ways.set(2, 31), (1L << 31) + (1L << 32));
        check.due("set(3, 32)", ways.set(3, 32), 1L << 31);
        check.due("set(4, 31)", ways.set(4, 31), 1L << 32);
        check.due("set(5, 32)", ways.set(5, 32), (1L << 32) + (1L << 33) + (1L << 39));
        check.due("set(1, 39)", ways.set(1, 39), 1L << 39);
        Counted chain = Graphs.chain();
        check.due("all 40: set(0, 1)", chain.set(0, 1), 1099511627775L);
        check.due("all 40: set(1, 0)", chain.set(1, 0), 1099511627775L);
        check.due("all 40: set(5, 0)", chain.set(5, 0), 1099511627775L);
        check.due("all 40: set(2, 0)", Graphs.deepest().set(2, 0), 1099511627775L);
    }

    private void setAnotherWhat() {
        check.at("Promise 8", "0 for another what");
        Counted nested = Graphs.nested();
        for (int what : Check.NO_WHATS) {
            for (int b = 0; b < 6; b++) {
                check.due("set(" + what + ", " + b + ")", nested.set(what, b), 0L);
            }
        }
    }

    private void setAnotherBlock() {
        check.at("Promise 8", "0 for another what or block");
        Counted deepest = Graphs.deepest();
        Counted chain = Graphs.chain();
        for (int b : Check.NO_BLOCKS) {
            for (int what = 0; what < 6; what++) {
                check.due("set(" + what + ", " + b + ")", chain.set(what, b), 0L);
                check.due("set(" + what + ", " + b + ") with 40 rounds", deepest.set(what, b), 0L);
            }
            check.due("set(" + b + ", " + b + "), neither", chain.set(b, b), 0L);
        }
    }

    private void setNotReached() {
        check.at("Promise 8", "or if b is not REACHED (0, 2, 3, 5)");
        Counted apart = apart();
        for (int b : new int[] {3, 4, 5, 9, 39}) {
            check.due("set(0, " + b + ")", apart.set(0, b), 0L);
            check.due("set(2, " + b + ")", apart.set(2, b), 0L);
            check.due("set(3, " + b + ")", apart.set(3, b), 0L);
            check.due("set(5, " + b + ")", apart.set(5, b), 0L);
        }
        check.due("GOOD, though not REACHED: set(1, 4)", apart.set(1, 4), Check.bits(4, 5));
        check.due("GOOD, though not REACHED: set(4, 4)", apart.set(4, 4), Check.bits(4));
    }

    private void setNotGood() {
        check.at("Promise 8", "or GOOD (1, 4)");
        Counted apart = apart();
        for (int b : new int[] {0, 1, 2, 3, 9, 39}) {
            check.due("set(1, " + b + ")", apart.set(1, b), 0L);
            check.due("set(4, " + b + ")", apart.set(4, b), 0L);
        }
        check.due("REACHED, though not GOOD: set(0, 2)", apart.set(0, 2), 7L);
        check.due("REACHED, though not GOOD: set(2, 1)", apart.set(2, 1), 6L);
        check.due("REACHED, though not GOOD: set(3, 2)", apart.set(3, 2), 2L);
        check.due("REACHED, though not GOOD: set(5, 0)", apart.set(5, 0), 7L);
    }

    private void setNoHead() {
        check.at("Promise 8", "or no HEAD (2)");
        check.sets("nested", Graphs.nested(), 2, 0L, Check.bits(1, 2, 3, 4), Check.bits(2, 3), 0L, 0L, 0L, 0L);
        check.sets("tangle", Graphs.tangle(), 2, 0L, 0L, 0L, 0L, 0L);
        Counted chain = Graphs.chain();
        for (int b = 0; b < 40; b++) {
            check.due("chain: set(2, " + b + ")", chain.set(2, b), 0L);
        }
    }

    private void depthOfReached() {
        check.at("Promise 9", "The DEPTH of a REACHED block");
        Counted deepest = Graphs.deepest();
        check.due("the least: depth(0) of 0 alone", graph(row(0)).depth(0), 0);
        check.due("the greatest: depth(39)", deepest.depth(39), 40);
        check.due("depth(0)", deepest.depth(0), 1);
        check.due("REACHED, not GOOD: depth(2)", apart().depth(2), 1);
        check.due("REACHED, in no ROUND: depth(0)", apart().depth(0), 0);
    }

    private void depthOfOthers() {
        check.at("Promise 9", "NONE for others");
        Counted apart = apart();
        check.due("not told: depth(3)", apart.depth(3), NONE);
        check.due("to itself, not REACHED: depth(4)", apart.depth(4), NONE);
        check.due("not REACHED: depth(5)", apart.depth(5), NONE);
        check.due("a TARGET not told: depth(9)", apart.depth(9), NONE);
        check.due("0 not told: depth(0)", new Counted().depth(0), NONE);
        Counted deepest = Graphs.deepest();
        for (int b : Check.NO_BLOCKS) {
            check.due("depth(" + b + ")", deepest.depth(b), NONE);
        }
    }

    private void innerFewestBlocks() {
        check.at("Promise 10", "The HEAD of the ROUND with the fewest blocks in which b is (of several the one with the least HEAD).");
        Counted deepest = Graphs.deepest();
        for (int b = 0; b < 40; b++) {
            check.due("40 rounds: inner(" + b + ")", deepest.inner(b), b);
        }
        // The inner HEAD is now the greater, now the less; size decides, not the number.
        Counted down = graph(row(0, 9), row(9, 4), row(4, 4, 2), row(2, 9));
        check.due("inner(4)", down.inner(4), 4);
        check.due("inner(9)", down.inner(9), 9);
        check.due("inner(2)", down.inner(2), 9);
        // Rounds with as many blocks, but not round the same ones: each is the one of its own.
        Counted alike = graph(row(0, 8), row(8, 7, 6), row(7, 8), row(6, 5), row(5, 6, 4), row(4));
        check.due("two rounds of two: inner(7)", alike.inner(7), 8);
        check.due("two rounds of two: inner(8)", alike.inner(8), 8);
        check.due("two rounds of two: inner(6)", alike.inner(6), 6);
        check.due("two rounds of two: inner(5)", alike.inner(5), 6);
        check.due("a HEAD 0: inner(0)", graph(row(0, 0)).inner(0), 0);
    }

    private void innerInNone() {
        check.at("Promise 10", "NoSuchElementException: it is in none");
        check.due("0 alone: inner(0)", graph(row(0)).inner(0), THROWS);
        check.due("ahead of the rounds: inner(0)", Graphs.nested().inner(0), THROWS);
        check.due("past the rounds: inner(5)", Graphs.nested().inner(5), THROWS);
        check.due("in a circle that is no ROUND: inner(1)", Graphs.tangle().inner(1), THROWS);
        check.due("in a circle that is no ROUND: inner(2)", Graphs.tangle().inner(2), THROWS);
    }

    private void innerNotReached() {
        check.at("Promise 10", "or not REACHED");
        Counted apart = apart();
        check.due("not told: inner(3)", apart.inner(3), THROWS);
        check.due("to itself, not REACHED: inner(4)", apart.inner(4), THROWS);
        check.due("a TARGET not told: inner(9)", apart.inner(9), THROWS);
        check.due("REACHED: inner(2)", apart.inner(2), 1);
        apart.drop(0);
        check.due("not REACHED any more: inner(2)", apart.inner(2), THROWS);
        check.due("a new object: inner(0)", new Counted().inner(0), THROWS);
    }

    private void innerNoBlock() {
        check.at("Promise 10", "or no block");
        Counted deepest = Graphs.deepest();
        for (int b : Check.NO_BLOCKS) {
            check.due("inner(" + b + ")", deepest.inner(b), THROWS);
        }
        check.due("nothing has changed: inner(39)", deepest.inner(39), 39);
    }

    private void joinsOfNone() {
        check.at("Promise 11", "As bits, the EDGES of all REACHED blocks of some");
        check.due("of none: joins(0)", Graphs.nested().joins(0L), 0L);
        check.due("no block told: joins(-1)", new Counted().joins(-1L), 0L);
        check.due("no EDGE: joins(-1)", Graphs.chain().joins(-1L), 0L);
        check.due("the block itself is not in it: joins of 4", Graphs.nested().joins(Check.bits(4)), Check.bits(1));
        check.due("unless on its own EDGE: joins of 1", Graphs.nested().joins(Check.bits(1)), Check.bits(1));
        check.due("all 40: joins(-1)", Graphs.ring().joins(-1L), Check.ALL);
        check.due("all 40: joins of 39", Graphs.ring().joins(1L << 39), Check.ALL);
        Counted last = fortyOf(false, true);
        last.target(39, 39);
        check.due("of all 40 only the last has an EDGE: joins(-1)", last.joins(-1L), 1L << 39);
        check.due("of all 40 only the last has an EDGE: joins of 0 .. 38", last.joins(Check.span(0, 38)), 0L);
        check.due("of several: joins of 4 and 3", Graphs.nested().joins(Check.bits(3, 4)), Check.bits(1, 2));
    }

    private void joinsBitsAbove39() {
        check.at("Promise 11", "(as bits; others don't count)");
        Counted deepest = Graphs.deepest();
        for (int k = 40; k < 64; k++) {
            check.due("joins of bit " + k, deepest.joins(1L << k), 0L);
        }
        Counted nested = Graphs.nested();
        check.due("joins(Long.MIN_VALUE)", nested.joins(Long.MIN_VALUE), 0L);
        check.due("joins of all above 39", nested.joins(~Check.ALL), 0L);
        check.due("joins of 4 and all above 39", nested.joins(~Check.ALL | Check.bits(4)), Check.bits(1));
        check.due("joins of 0 and bit 63", nested.joins(Long.MIN_VALUE | 1L), 0L);
        check.due("joins(-1)", nested.joins(-1L), Check.bits(1, 2));
        check.due("joins(Long.MAX_VALUE)", nested.joins(Long.MAX_VALUE), Check.bits(1, 2));
    }

    private void joinsOthersDontCount() {
        check.at("Promise 11", "(as bits; others don't count)");
        Counted ways = graph(row(0, 1, 2), row(1, 3), row(2, 3, 9), row(3), row(4, 4, 3, 1), row(5, 3));
        check.due("not REACHED: joins of 4 and 5", ways.joins(Check.bits(4, 5)), 0L);
        check.due("not told: joins of 9 and 39", ways.joins(Check.bits(9, 39)), 0L);
        check.due("with one that is REACHED", ways.joins(Check.bits(1, 4, 5, 9, 39)), Check.bits(3));
        check.due("0 not told: joins(-1)", graph(row(1, 1)).joins(-1L), 0L);
    }

    private void joinsAndSoOn() {
        check.at("Promise 11", "and of those in these, and so on");
        int[][] up = new int[40][];
        int[][] down = new int[40][];
        for (int b = 0; b < 40; b++) {
            up[b] = b == 39 ? row(b) : b == 38 ? row(b, 39) : row(b, b + 1, b + 2);
            down[b] = b == 0 ? row(b, 39, 38) : b == 1 ? row(b) : b == 2 ? row(b, 1) : row(b, b - 1, b - 2);
        }
        Counted rising = graph(up);
        Counted falling = graph(down);
        check.due("one EDGE: set(3, 1)", rising.set(3, 1), Check.bits(2, 3));
        check.due("rising: joins of 1", rising.joins(Check.bits(1)), Check.span(2, 39));
        check.due("rising: joins of 37", rising.joins(Check.bits(37)), Check.bits(38, 39));
        check.due("rising: joins of 0", rising.joins(1L), 0L);
        check.due("falling: joins of 39", falling.joins(Check.bits(39)), Check.span(1, 38));
        check.due("falling: joins of 3", falling.joins(Check.bits(3)), Check.bits(2, 1));
        check.due("round for ever: joins of 1", Graphs.tangle().joins(Check.bits(1)), Check.bits(1, 2));
    }

    private void questionsChangeNothing() {
        check.at("Not promised", "Nothing is promised beyond the answers and state changes described above");
        Counted ways = Graphs.nested();
        for (int b : new int[] {-1, 40, Integer.MIN_VALUE, Integer.MAX_VALUE, 0, 39}) {
            ways.count(b);
            ways.lid(b);
            ways.meeting(b);
            ways.set(b, b);
            ways.set(3, b);
            ways.depth(b);
            ways.inner(b);
            ways.joins(b);
        }
        check.compare("after questions", ways, Graphs.nested());
    }
}
