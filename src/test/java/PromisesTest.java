/** One method for each promise of the document, the answers worked out by hand. */
public final class PromisesTest {
    private final Check check = new Check();

    public static void main(String[] args) {
        PromisesTest test = new PromisesTest();
        test.promise1();
        test.promise2();
        test.promise3();
        test.promise4();
        test.promise5();
        test.promise6();
        test.promise7();
        test.promise8Ordinary();
        test.promise8Edges();
        test.promise9();
        test.promise10();
        test.promise11();
        test.check.end();
    }

    private static int[] row(int... blockAndTargets) {
        return Counted.row(blockAndTargets);
    }

    private void promise1() {
        check.at("promise 1");
        Counted ways = new Counted();
        for (int what = 0; what < 5; what++) {
            check.due("count(" + what + ")", ways.count(what), 0);
        }
        check.due("count(5)", ways.count(5), 1);
        for (int b = 0; b < 40; b++) {
            check.due("drop(" + b + ")", ways.drop(b), false);
            check.due("target(" + b + ", 0)", ways.target(b, 0), false);
            check.due("lid(" + b + ")", ways.lid(b), BlockWays.NONE);
            check.due("meeting(" + b + ")", ways.meeting(b), BlockWays.NONE);
            check.due("depth(" + b + ")", ways.depth(b), BlockWays.NONE);
            check.due("inner(" + b + ")", ways.inner(b), Counted.THROWS);
            for (int what = 0; what < 6; what++) {
                check.due("set(" + what + ", " + b + ")", ways.set(what, b), 0L);
            }
        }
        check.due("joins(-1)", ways.joins(-1L), 0L);
        ways.block(0);
        check.due("another new object's count(0)", new Counted().count(0), 0);
    }

    private void promise2() {
        check.at("promise 2");
        Counted ways = new Counted();
        for (int b = 0; b < 40; b++) {
            check.due("block(" + b + ")", ways.block(b), true);
            check.due("block(" + b + ") again", ways.block(b), false);
            check.due("count(0)", ways.count(0), b + 1);
            check.due("count(2), all ENDs", ways.count(2), b + 1);
        }
        for (int b : Check.NO_BLOCKS) {
            check.due("block(" + b + ")", ways.block(b), false);
        }
        check.due("count(0)", ways.count(0), 40);
        ways.target(0, 1);
        check.due("block(0), told", ways.block(0), false);
        check.due("count(1), the target of 0 is kept", ways.count(1), 2);
        check.due("another new object's block(64)", new Counted().block(64), false);
    }

    private void promise3() {
        check.at("promise 3");
        Counted ways = new Counted();
        check.due("target(0, 1), 0 not told", ways.target(0, 1), false);
        ways.block(0);
        check.due("count(2), an END", ways.count(2), 1);
        for (int b : Check.NO_BLOCKS) {
            check.due("target(0, " + b + ")", ways.target(0, b), false);
            check.due("target(" + b + ", 0)", ways.target(b, 0), false);
        }
        check.due("count(2), still an END", ways.count(2), 1);
        check.due("target(0, 39), 39 not told", ways.target(0, 39), true);
        check.due("count(1)", ways.count(1), 1);
        check.due("count(2), 0 is no END now", ways.count(2), 0);
        ways.block(39);
        check.due("count(1), 39 told", ways.count(1), 2);
        check.due("count(2), 39 told", ways.count(2), 2);
        check.due("target(0, 39) again", ways.target(0, 39), true);
        check.due("target(0, 39) a third time", ways.target(0, 39), true);
        check.due("set(4, 39)", ways.set(4, 39), 0L);
        check.due("target(0, 0)", ways.target(0, 0), true);
        check.due("target(0, 39), has 4", ways.target(0, 39), false);
        check.due("target(0, 7), has 4", ways.target(0, 7), false);
        ways.block(7);
        check.due("count(1), the fifth changed nothing", ways.count(1), 2);
        check.due("target(39, 7), has none", ways.target(39, 7), true);
        check.due("count(1)", ways.count(1), 3);
    }

    private void promise4() {
        check.at("promise 4");
        Counted ways = Counted.graph(row(0, 1), row(1, 2, 2, 2, 2), row(2));
        check.due("count(1)", ways.count(1), 3);
        check.due("drop(1)", ways.drop(1), true);
        check.due("drop(1) again", ways.drop(1), false);
        check.due("count(0)", ways.count(0), 2);
        check.due("count(1)", ways.count(1), 1);
        check.due("count(2), 0 has a target and is no END", ways.count(2), 1);
        check.due("target(1, 2)", ways.target(1, 2), false);
        check.due("block(1)", ways.block(1), true);
        check.due("count(1), 0 has its target still", ways.count(1), 2);
        check.due("count(2), 1 is an END now", ways.count(2), 3);
        check.due("meeting(0)", ways.meeting(0), 1);
        check.due("set(4, 2)", ways.set(4, 2), 0L);
        for (int i = 0; i < 4; i++) {
            check.due("target(1, 2), its places are free", ways.target(1, 2), true);
        }
        check.due("target(1, 2), has 4", ways.target(1, 2), false);
        check.due("count(1)", ways.count(1), 3);
        check.due("drop(0)", ways.drop(0), true);
        check.due("count(1)", ways.count(1), 0);
        check.due("count(2)", ways.count(2), 2);
        for (int b : Check.NO_BLOCKS) {
            check.due("drop(" + b + ")", ways.drop(b), false);
        }
        check.due("count(0)", ways.count(0), 2);
    }

    private void promise5() {
        check.at("promise 5");
        check.counts("nested", Graphs.nested(), 6, 6, 6, 2, 2, 1);
        check.counts("chain", Graphs.chain(), 40, 40, 40, 0, 0, 1);
        check.counts("onion", Graphs.onion(), 40, 40, 0, 20, 20, 1);
        check.counts("tangle", Graphs.tangle(), 4, 4, 4, 0, 0, 0);
        check.counts("tangle in a round", Counted.graph(row(0, 1, 2), row(1, 2), row(2, 1, 0)), 3, 3, 0, 1, 1, 0);
        check.counts("tangle that is not reached", Counted.graph(row(0), row(4, 5, 6), row(5, 6), row(6, 5)), 4, 1, 1, 0, 0, 1);
        check.counts("a head entered from outside its round", Counted.graph(row(0, 1, 2), row(1, 2, 3), row(2, 3), row(3, 3, 1)), 4, 4, 0, 1, 1, 0);
        check.counts("0 to itself", Counted.graph(row(0, 0)), 1, 1, 0, 1, 1, 1);
        check.counts("two rounds side by side", Counted.graph(row(0, 1), row(1, 1, 2), row(2, 2, 3), row(3)), 4, 4, 4, 2, 1, 1);
        check.counts("0 not told", Counted.graph(row(1, 1, 2), row(2)), 2, 0, 2, 0, 0, 1);
        check.counts("a target not told is no END", Counted.graph(row(0, 9)), 1, 1, 0, 0, 0, 1);
        check.counts("two closing blocks, one round", Counted.graph(row(0, 1, 2), row(1, 0), row(2, 0, 3), row(3)), 4, 4, 4, 1, 1, 1);
        for (int what : new int[] {-1, 6, 7, 64, Integer.MIN_VALUE, Integer.MAX_VALUE}) {
            check.due("count(" + what + ")", Graphs.nested().count(what), BlockWays.NONE);
        }
    }

    private void promise6() {
        check.at("promise 6");
        int[] nestedLids = {-1, 0, 1, 2, 3, 1};
        Counted nested = Graphs.nested();
        for (int b = 0; b < 6; b++) {
            check.due("nested: lid(" + b + ")", nested.lid(b), nestedLids[b]);
        }
        check.due("nested: lid(6), not told", nested.lid(6), BlockWays.NONE);
        Counted chain = Graphs.chain();
        check.due("chain: lid(39)", chain.lid(39), 0);
        check.due("chain: lid(1)", chain.lid(1), 2);
        Counted tangle = Graphs.tangle();
        check.due("tangle: lid(1)", tangle.lid(1), 0);
        check.due("tangle: lid(2)", tangle.lid(2), 0);
        check.due("tangle: lid(3)", tangle.lid(3), 2);
        check.due("0 in a round: lid(0)", Counted.graph(row(0, 1), row(1, 0)).lid(0), BlockWays.NONE);
        check.due("not reached: lid(2)", Counted.graph(row(0), row(1, 2), row(2)).lid(2), BlockWays.NONE);
        check.due("a source not reached: lid(2)", Counted.graph(row(0, 1), row(1, 2), row(2), row(3, 2)).lid(2), 1);
        for (int b : Check.NO_BLOCKS) {
            check.due("lid(" + b + ")", nested.lid(b), BlockWays.NONE);
        }
    }

    private void promise7() {
        check.at("promise 7");
        int[] nestedMeetings = {1, 5, 3, 4, 1, -1};
        Counted nested = Graphs.nested();
        for (int b = 0; b < 6; b++) {
            check.due("nested: meeting(" + b + ")", nested.meeting(b), nestedMeetings[b]);
        }
        Counted chain = Graphs.chain();
        check.due("chain: meeting(0)", chain.meeting(0), 39);
        check.due("chain: meeting(2)", chain.meeting(2), 1);
        check.due("two ENDs: meeting(0)", Counted.graph(row(0, 1, 2), row(1), row(2)).meeting(0), BlockWays.NONE);
        Counted stuck = Counted.graph(row(0, 1, 2), row(1, 3), row(2, 2), row(3));
        check.due("a target not GOOD counts not: meeting(0)", stuck.meeting(0), 1);
        check.due("not GOOD: meeting(2)", stuck.meeting(2), BlockWays.NONE);
        Counted aside = Counted.graph(row(0), row(8, 9), row(9));
        check.due("GOOD but not reached: meeting(8)", aside.meeting(8), 9);
        check.due("not told: meeting(7)", aside.meeting(7), BlockWays.NONE);
        check.due("a target not told: meeting(0)", Counted.graph(row(0, 1, 2), row(1, 3), row(3)).meeting(0), 1);
        check.due("parting and meeting: meeting(0)", Counted.graph(row(0, 1, 2), row(1, 3), row(2, 3), row(3)).meeting(0), 3);
        for (int b : Check.NO_BLOCKS) {
            check.due("meeting(" + b + ")", nested.meeting(b), BlockWays.NONE);
        }
    }

    private void promise8Ordinary() {
        check.at("promise 8, nested");
        Counted nested = Graphs.nested();
        check.sets("nested", nested, 0, 1L, 3L, 7L, 15L, 31L, Check.bits(0, 1, 5));
        check.sets("nested", nested, 1, Check.bits(0, 1, 5), Check.bits(1, 5), Check.bits(1, 2, 3, 4, 5), Check.bits(1, 3, 4, 5), Check.bits(1, 4, 5), Check.bits(5));
        check.sets("nested", nested, 2, 0L, Check.bits(1, 2, 3, 4), Check.bits(2, 3), 0L, 0L, 0L);
        check.sets("nested", nested, 3, 0L, Check.bits(1), Check.bits(1, 2), Check.bits(1, 2), Check.bits(1), 0L);
        check.sets("nested", nested, 4, 0L, Check.bits(1), Check.bits(1, 3), Check.bits(1, 3), Check.bits(1), 0L);
        check.sets("nested", nested, 5, 63L, 62L, Check.bits(2, 3, 4), Check.bits(3, 4), Check.bits(4), Check.bits(5));
        for (int b : Check.NO_BLOCKS) {
            for (int what = 0; what < 6; what++) {
                check.due("set(" + what + ", " + b + ")", nested.set(what, b), 0L);
            }
        }
        for (int what : new int[] {-1, 6, 7, Integer.MIN_VALUE, Integer.MAX_VALUE}) {
            check.due("set(" + what + ", 1)", nested.set(what, 1), 0L);
        }
    }

    private void promise8Edges() {
        check.at("promise 8, edges");
        Counted chain = Graphs.chain();
        check.due("chain: set(0, 1)", chain.set(0, 1), Check.ALL);
        check.due("chain: set(1, 0)", chain.set(1, 0), Check.ALL);
        check.due("chain: set(5, 0)", chain.set(5, 0), Check.ALL);
        Counted onion = Graphs.onion();
        check.due("onion: set(2, 0)", onion.set(2, 0), Check.ALL);
        check.due("onion: set(2, 5)", onion.set(2, 5), Check.ALL >>> 5 & ~31L & Check.ALL);
        check.due("onion: set(2, 20), no HEAD", onion.set(2, 20), 0L);
        check.due("onion: set(3, 20)", onion.set(3, 20), (1L << 20) - 1L);
        check.due("onion: set(1, 0), nothing is GOOD", onion.set(1, 0), 0L);
        check.due("onion: set(4, 0), nothing is GOOD", onion.set(4, 0), 0L);
        check.sets("0 to itself", Counted.graph(row(0, 0, 1), row(1)), 2, 1L, 0L);
        check.sets("0 to itself", Counted.graph(row(0, 0, 1), row(1)), 3, 1L, 0L);
        check.sets("0 to itself", Counted.graph(row(0, 0, 1), row(1)), 4, 1L, 0L);
        Counted aside = Counted.graph(row(0, 1, 2), row(1, 3), row(2, 3), row(3), row(4, 3, 5), row(5, 4));
        check.sets("aside", aside, 0, 1L, 3L, 5L, 9L, 0L, 0L);
        check.sets("aside", aside, 1, 9L, 10L, 12L, 8L, 24L, 56L);
        check.sets("aside", aside, 2, 0L, 0L, 0L, 0L, 0L, 0L);
        check.sets("aside", aside, 3, 0L, 8L, 8L, 0L, 0L, 0L);
        check.sets("aside", aside, 4, 0L, 1L, 1L, 0L, 16L, 16L);
        check.sets("aside", aside, 5, 15L, 2L, 4L, 8L, 0L, 0L);
        check.sets("9 not told", Counted.graph(row(0, 1, 2), row(1, 3, 9), row(2, 3, 9), row(3)), 3, 0L, 8L, 8L, 0L);
        check.sets("9 not told", Counted.graph(row(0, 1, 2), row(1, 3, 9), row(2, 3, 9), row(3)), 4, 0L, 1L, 1L, 0L);
        // 3 leads into the round but is not reached, so it is not in it.
        check.due("a source not reached: set(2, 1)", Counted.graph(row(0, 1), row(1, 2), row(2, 1), row(3, 2)).set(2, 1), 6L);
    }

    private void promise9() {
        check.at("promise 9");
        int[] nestedDepths = {0, 1, 2, 2, 1, 0, -1};
        Counted nested = Graphs.nested();
        for (int b = 0; b < 7; b++) {
            check.due("nested: depth(" + b + ")", nested.depth(b), nestedDepths[b]);
        }
        Counted onion = Graphs.onion();
        for (int b = 0; b < 40; b++) {
            check.due("onion: depth(" + b + ")", onion.depth(b), b < 20 ? b + 1 : 40 - b);
        }
        check.due("tangle: depth(1)", Graphs.tangle().depth(1), 0);
        check.due("not reached: depth(1)", Counted.graph(row(0), row(1, 1)).depth(1), BlockWays.NONE);
        for (int b : Check.NO_BLOCKS) {
            check.due("depth(" + b + ")", onion.depth(b), BlockWays.NONE);
        }
    }

    private void promise10() {
        check.at("promise 10");
        int[] nestedInner = {Counted.THROWS, 1, 2, 2, 1, Counted.THROWS, Counted.THROWS};
        Counted nested = Graphs.nested();
        for (int b = 0; b < 7; b++) {
            check.due("nested: inner(" + b + ")", nested.inner(b), nestedInner[b]);
        }
        Counted onion = Graphs.onion();
        for (int b = 0; b < 40; b++) {
            check.due("onion: inner(" + b + ")", onion.inner(b), b < 20 ? b : 39 - b);
        }
        Counted high = Counted.graph(row(0, 9), row(9, 4), row(4, 4, 2), row(2, 9));
        check.due("the inner head is less: inner(4)", high.inner(4), 4);
        check.due("the inner head is less: inner(2)", high.inner(2), 9);
        check.due("tangle: inner(1)", Graphs.tangle().inner(1), Counted.THROWS);
        check.due("not reached: inner(1)", Counted.graph(row(0), row(1, 1)).inner(1), Counted.THROWS);
        for (int b : Check.NO_BLOCKS) {
            check.due("inner(" + b + ")", onion.inner(b), Counted.THROWS);
        }
    }

    private void promise11() {
        check.at("promise 11");
        Counted nested = Graphs.nested();
        check.due("nested: joins(0)", nested.joins(0L), 0L);
        check.due("nested: joins of 0 and 5", nested.joins(Check.bits(0, 5)), 0L);
        check.due("nested: joins of 3", nested.joins(Check.bits(3)), Check.bits(1, 2));
        check.due("nested: joins of 4", nested.joins(Check.bits(4)), Check.bits(1));
        check.due("nested: joins of what are no blocks", nested.joins(~Check.ALL), 0L);
        check.due("nested: joins(-1)", nested.joins(-1L), Check.bits(1, 2));
        check.due("nested: joins(Long.MIN_VALUE)", nested.joins(Long.MIN_VALUE), 0L);
        // 1 and 2 meet at 5, which meets 3 at 6, which meets 4 at 7: each edge leads to the next.
        Counted stairs = Counted.graph(row(0, 1, 2, 3, 4), row(1, 5), row(2, 5), row(3, 6), row(4, 7), row(5, 6), row(6, 7), row(7));
        check.due("stairs: joins of 1", stairs.joins(Check.bits(1)), Check.bits(5, 6, 7));
        check.due("stairs: joins of 3", stairs.joins(Check.bits(3)), Check.bits(6, 7));
        check.due("stairs: joins of 4", stairs.joins(Check.bits(4)), Check.bits(7));
        check.due("stairs: joins of 7", stairs.joins(Check.bits(7)), 0L);
        Counted down = Counted.graph(row(0, 9, 8, 7, 6), row(9, 5), row(8, 5), row(7, 4), row(6, 3), row(5, 4), row(4, 3), row(3));
        check.due("stairs down: joins of 9", down.joins(Check.bits(9)), Check.bits(5, 4, 3));
        check.due("onion: joins of 39", Graphs.onion().joins(Check.bits(39)), 1L);
        check.due("onion: joins(-1)", Graphs.onion().joins(-1L), (1L << 20) - 1L);
        Counted aside = Counted.graph(row(0, 1, 2), row(1, 3), row(2, 3), row(3), row(4, 4, 3));
        check.due("not reached: joins of 4", aside.joins(Check.bits(4)), 0L);
        check.due("0 not told: joins(-1)", Counted.graph(row(1, 1)).joins(-1L), 0L);
    }
}
