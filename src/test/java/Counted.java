import java.util.NoSuchElementException;

/**
 * A BlockWays under test that counts its calls: what comes after the 512th is free, so a test that
 * asks more of one object proves nothing and is itself wrong.
 */
final class Counted {
    static final int MOST_CALLS = 512;
    /** Stands for a NoSuchElementException among the answers of inner. */
    static final int THROWS = -1000;

    private final BlockWays ways = new BlockWays();
    private int calls = 0;

    /** Each row is a block and its targets; all blocks are told before the first target is. */
    static Counted graph(int[]... rows) {
        Counted ways = new Counted();
        for (int[] row : rows) {
            ways.block(row[0]);
        }
        for (int[] row : rows) {
            for (int i = 1; i < row.length; i++) {
                ways.target(row[0], row[i]);
            }
        }
        return ways;
    }

    static int[] row(int... blockAndTargets) {
        return blockAndTargets;
    }

    int calls() {
        return calls;
    }

    private BlockWays use() {
        calls++;
        if (calls > MOST_CALLS) {
            throw new AssertionError("the test makes more than " + MOST_CALLS + " calls on one object");
        }
        return ways;
    }

    boolean block(int b) {
        return use().block(b);
    }

    boolean target(int b, int to) {
        return use().target(b, to);
    }

    boolean drop(int b) {
        return use().drop(b);
    }

    int count(int what) {
        return use().count(what);
    }

    int lid(int b) {
        return use().lid(b);
    }

    int meeting(int b) {
        return use().meeting(b);
    }

    long set(int what, int b) {
        return use().set(what, b);
    }

    int depth(int b) {
        return use().depth(b);
    }

    /** A class below NoSuchElementException is not the one that the document names. */
    int inner(int b) {
        try {
            return use().inner(b);
        } catch (NoSuchElementException e) {
            if (e.getClass() != NoSuchElementException.class) {
                throw new AssertionError("inner throws " + e.getClass());
            }
            return THROWS;
        }
    }

    long joins(long blocks) {
        return use().joins(blocks);
    }
}
