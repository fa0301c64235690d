import java.util.function.Consumer;

/** The boundary cases of promises 1 to 4, each under its own words. */
public final class ChangeBoundaryTest {
    private static final int NONE = -1;
    private static final int THROWS = Counted.THROWS;

    private final Check check = new Check();

    public static void main(String[] args) {
        ChangeBoundaryTest test = new ChangeBoundaryTest();
        test.noBlockIsTold();
        test.objectsAreApart();
        test.blockWithoutTargets();
        test.noSuchBlock();
        test.blockIsTold();
        test.targetToldOrNot();
        test.targetTrueUpToFour();
        test.firstNotTold();
        test.noSuchFirst();
        test.noSuchOther();
        test.hasFour();
        test.someMayBeAlike();
        test.dropNotToldAnyMore();
        test.dropNorItsTargets();
        test.dropAll();
        test.dropNotTold();
        test.check.end();
    }

    private static int[] row(int... blockAndTargets) {
        return Counted.row(blockAndTargets);
    }

    private static Counted graph(int[]... rows) {
        return Counted.graph(rows);
    }

    /** 0 has 4 TARGETS, two of them alike and one not told; 3 has none; 39 is not REACHED. */
    private static Counted mixed() {
        return graph(row(0, 1, 2, 1, 30), row(1, 3, 2), row(2, 2, 3), row(3), row(39, 3, 0));
    }

    /** Fills all that is free, so that a place or a mark lost by a refused call comes to light. */
    private static void fill(Counted ways) {
        ways.block(30);
        ways.block(7);
        ways.target(7, 39);
        ways.target(30, 7);
        for (int i = 0; i < 4; i++) {
            ways.target(1, 30);
            ways.target(3, i == 0 ? 1 : 3);
            ways.target(39, 2);
        }
    }

    /** What later calls answer must be the same with the refused calls and without them. */
    private void changesNothing(Consumer<Counted> refused) {
        Counted ways = mixed();
        refused.accept(ways);
        check.compare("after refused calls", ways, mixed());
        Counted asked = mixed();
        asked.count(4);
        asked.count(2);
        refused.accept(asked);
        fill(asked);
        Counted filled = mixed();
        fill(filled);
        check.compare("after refused calls and more changes", asked, filled);
        Counted fresh = new Counted();
        refused.accept(fresh);
        check.due("no block told by them: block(39)", fresh.block(39), true);
        check.due("no block told by them: count(0)", fresh.count(0), 1);
    }

    private void noBlockIsTold() {
        check.at("Promise 1", "No block is told.");
        Counted ways = new Counted();
        check.counts("a new object", ways, 0, 0, 0, 0, 0, 1);
        for (int b = 0; b < 40; b++) {
            check.due("lid(" + b + ")", ways.lid(b), NONE);
            check.due("meeting(" + b + ")", ways.meeting(b), NONE);
            check.due("depth(" + b + ")", ways.depth(b), NONE);
            check.due("inner(" + b + ")", ways.inner(b), THROWS);
            check.due("drop(" + b + ")", ways.drop(b), false);
            check.due("target(" + b + ", " + b + ")", ways.target(b, b), false);
            for (int what = 0; what < 6; what++) {
                check.due("set(" + what + ", " + b + ")", ways.set(what, b), 0L);
            }
        }
        check.due("joins(-1)", ways.joins(-1L), 0L);
        check.due("joins(0)", ways.joins(0L), 0L);
    }

    private void objectsAreApart() {
        check.at("Promise 1", "No block is told.");
        Counted full = Graphs.ring();
        Counted fresh = new Counted();
        check.due("beside a full object: count(0)", fresh.count(0), 0);
        check.due("beside a full object: block(0)", fresh.block(0), true);
        check.due("beside a full object: count(2), an END", fresh.count(2), 1);
        check.due("the full object: count(2)", full.count(2), 0);
    }

    private void blockWithoutTargets() {
        check.at("Promise 2", "A block is told, without TARGETS: true");
        Counted ways = new Counted();
        for (int b = 39; b >= 0; b--) {
            check.due("block(" + b + ")", ways.block(b), true);
            check.due("count(0)", ways.count(0), 40 - b);
            check.due("an END: set(1, " + b + ")", ways.set(1, b), 1L << b);
        }
        for (int i = 0; i < 4; i++) {
            check.due("target(39, 39), four places are free", ways.target(39, 39), true);
        }
        check.due("target(39, 39), has 4", ways.target(39, 39), false);
    }

    private void noSuchBlock() {
        check.at("Promise 2", "false, changing nothing, if there is no such one");
        changesNothing(ways -> {
            for (int b : Check.NO_BLOCKS) {
                check.due("block(" + b + ")", ways.block(b), false);
            }
        });
        for (int b : Check.NO_BLOCKS) {
            Counted fresh = new Counted();
            check.due("block(" + b + ") on a new object", fresh.block(b), false);
            check.due("count(0) after block(" + b + ")", fresh.count(0), 0);
        }
    }

    private void blockIsTold() {
        check.at("Promise 2", "false, changing nothing, if there is no such one or it is told");
        Counted ways = mixed();
        for (int b : new int[] {0, 1, 2, 3, 39}) {
            check.due("block(" + b + ")", ways.block(b), false);
        }
        check.due("target(0, 3), has its 4 still", ways.target(0, 3), false);
        check.compare("after refused calls", ways, mixed());
        Counted filled = mixed();
        fill(filled);
        Counted again = mixed();
        for (int b : new int[] {0, 1, 2, 3, 39}) {
            again.block(b);
        }
        fill(again);
        check.compare("after refused calls and more changes", again, filled);
        Counted ring = Graphs.ring();
        for (int b = 0; b < 40; b++) {
            check.due("all told: block(" + b + ")", ring.block(b), false);
        }
        check.counts("all told", ring, 40, 40, 0, 1, 1, 0);
    }

    private void targetToldOrNot() {
        check.at("Promise 3", "One more TARGET of a block (told or not): true");
        Counted ways = graph(row(0));
        check.due("target(0, 39), not told", ways.target(0, 39), true);
        check.due("39 is not REACHED: count(1)", ways.count(1), 1);
        check.due("39 is not told by it: block(39)", ways.block(39), true);
        check.due("39 is REACHED: count(1)", ways.count(1), 2);
        check.due("target(39, 0), told", ways.target(39, 0), true);
        check.due("target(39, 39), itself", ways.target(39, 39), true);
        check.due("set(2, 0)", ways.set(2, 0), Check.bits(0, 39));
        check.due("set(2, 39)", ways.set(2, 39), Check.bits(39));
    }

    private void targetTrueUpToFour() {
        check.at("Promise 3", "One more TARGET of a block (told or not): true");
        Counted ways = graph(row(0));
        for (int to = 36; to < 40; to++) {
            check.due("target(0, " + to + "), not told", ways.target(0, to), true);
        }
        check.due("target(0, 35), has 4 that are not told", ways.target(0, 35), false);
        for (int b = 35; b < 40; b++) {
            ways.block(b);
        }
        check.due("the four, but not the fifth: set(5, 0)", ways.set(5, 0), 1L | Check.span(36, 39));
    }

    private void firstNotTold() {
        check.at("Promise 3", "false, changing nothing, if the first one is not told");
        changesNothing(ways -> {
            for (int to = 0; to < 4; to++) {
                check.due("target(30, " + to + ")", ways.target(30, to), false);
                check.due("target(7, " + to + ")", ways.target(7, to), false);
            }
        });
        Counted ways = new Counted();
        for (int i = 0; i < 5; i++) {
            check.due("target(0, 1), 0 not told", ways.target(0, 1), false);
        }
        ways.block(0);
        ways.block(1);
        check.counts("no TARGET kept", ways, 2, 1, 2, 0, 0, 1);
        for (int i = 0; i < 4; i++) {
            check.due("target(0, 1), told", ways.target(0, 1), true);
        }
    }

    private void noSuchFirst() {
        check.at("Promise 3", "false, changing nothing, if the first one is not told");
        changesNothing(ways -> {
            for (int b : Check.NO_BLOCKS) {
                check.due("target(" + b + ", 3)", ways.target(b, 3), false);
                check.due("target(" + b + ", " + b + ")", ways.target(b, b), false);
            }
        });
    }

    private void noSuchOther() {
        check.at("Promise 3", "there is no such other one");
        changesNothing(ways -> {
            for (int to : Check.NO_BLOCKS) {
                check.due("target(3, " + to + ")", ways.target(3, to), false);
                check.due("target(39, " + to + ")", ways.target(39, to), false);
            }
        });
        Counted ways = graph(row(0), row(1));
        for (int to : Check.NO_BLOCKS) {
            ways.target(0, to);
        }
        check.counts("0 is an END still", ways, 2, 1, 2, 0, 0, 1);
        for (int i = 0; i < 4; i++) {
            check.due("target(0, 1), four places are free", ways.target(0, 1), true);
        }
    }

    private void hasFour() {
        check.at("Promise 3", "or it has 4");
        changesNothing(ways -> {
            for (int to = 0; to < 40; to++) {
                check.due("target(0, " + to + ")", ways.target(0, to), false);
            }
        });
        Counted ways = graph(row(0, 1, 2, 3, 4), row(1), row(5));
        check.due("target(0, 5)", ways.target(0, 5), false);
        ways.drop(1);
        check.due("target(0, 5), a TARGET dropped is one still", ways.target(0, 5), false);
        check.due("count(1)", ways.count(1), 1);
        check.due("target(5, 0), another has none", ways.target(5, 0), true);
    }

    private void someMayBeAlike() {
        check.at("Promise 3", "it has 4 (of which some may be alike)");
        Counted ways = graph(row(0), row(1), row(2));
        for (int i = 0; i < 4; i++) {
            check.due("target(0, 1)", ways.target(0, 1), true);
        }
        check.due("target(0, 1), a fifth alike", ways.target(0, 1), false);
        check.due("target(0, 2), a fifth", ways.target(0, 2), false);
        check.due("count(1)", ways.count(1), 2);
        Counted pairs = graph(row(0, 1, 1, 2), row(1), row(2), row(3));
        check.due("target(0, 3), a fourth", pairs.target(0, 3), true);
        check.due("target(0, 0), a fifth", pairs.target(0, 0), false);
        check.counts("three that differ", pairs, 4, 4, 4, 0, 0, 1);
    }

    private void dropNotToldAnyMore() {
        check.at("Promise 4", "A block is not told any more");
        Counted ways = Graphs.nested();
        check.due("drop(5)", ways.drop(5), true);
        check.counts("the END dropped", ways, 5, 5, 0, 2, 2, 1);
        check.due("target(5, 0)", ways.target(5, 0), false);
        check.due("block(5)", ways.block(5), true);
        check.compare("told again, and a TARGET of 1 still", ways, Graphs.nested());
        Counted all = Graphs.chain();
        check.due("drop(0)", all.drop(0), true);
        check.counts("0 dropped", all, 39, 0, 39, 0, 0, 1);
        check.due("drop(39)", all.drop(39), true);
        check.counts("39 dropped", all, 38, 0, 38, 0, 0, 1);
    }

    private void dropNorItsTargets() {
        check.at("Promise 4", "nor its TARGETS");
        Counted ways = graph(row(0, 1), row(1, 2, 0, 1, 3), row(2), row(3));
        ways.drop(1);
        check.due("its TARGETS stay blocks that are told: count(0)", ways.count(0), 3);
        ways.block(1);
        check.compare("1 told again", ways, graph(row(0, 1), row(1), row(2), row(3)));
        Counted free = graph(row(0, 1), row(1, 2, 0, 1, 3), row(2), row(3));
        free.drop(1);
        free.block(1);
        for (int i = 0; i < 4; i++) {
            check.due("target(1, 2), four places are free", free.target(1, 2), true);
        }
        check.due("target(1, 3), has 4", free.target(1, 3), false);
        check.counts("the old TARGETS 0, 1 and 3 are gone", free, 4, 3, 4, 0, 0, 1);
        Counted self = graph(row(0, 0));
        self.drop(0);
        self.block(0);
        check.counts("0 not to itself any more", self, 1, 1, 1, 0, 0, 1);
    }

    private void dropAll() {
        check.at("Promise 4", "A block is not told any more, nor its TARGETS: true");
        Counted ways = Graphs.nested();
        for (int b = 0; b < 6; b++) {
            check.due("drop(" + b + ")", ways.drop(b), true);
        }
        check.compare("all dropped", ways, new Counted());
        Counted ring = Graphs.ring();
        for (int b = 0; b < 40; b++) {
            check.due("ring: drop(" + b + ")", ring.drop(b), true);
            check.due("ring: count(0)", ring.count(0), 39 - b);
        }
        for (int b = 0; b < 40; b++) {
            check.due("ring: block(" + b + ")", ring.block(b), true);
        }
        check.counts("told again, no TARGET kept", ring, 40, 1, 40, 0, 0, 1);
    }

    private void dropNotTold() {
        check.at("Promise 4", "false if it isn't told");
        changesNothing(ways -> {
            for (int b : Check.NO_BLOCKS) {
                check.due("drop(" + b + ")", ways.drop(b), false);
            }
            check.due("drop(30), a TARGET not told", ways.drop(30), false);
            check.due("drop(7)", ways.drop(7), false);
        });
        Counted ways = graph(row(0, 1), row(1));
        check.due("drop(1)", ways.drop(1), true);
        check.due("drop(1) again", ways.drop(1), false);
        check.due("count(0)", ways.count(0), 1);
    }
}
