import java.util.NoSuchElementException;

/** Counts and prints the answers that are not as due; used by every test of the project. */
final class Check {
    /** Stands for a NoSuchElementException among the answers of inner. */
    static final int THROWS = -1000;

    private int wrong = 0;
    private int asked = 0;
    private String where = "";

    void at(String place) {
        where = place;
    }

    void due(String call, long got, long want) {
        asked++;
        if (got != want) {
            wrong++;
            System.out.println(where + ": " + call + " answered " + got + ", due is " + want);
        }
    }

    void due(String call, boolean got, boolean want) {
        due(call, got ? 1L : 0L, want ? 1L : 0L);
    }

    static int inner(BlockWays ways, int b) {
        try {
            return ways.inner(b);
        } catch (NoSuchElementException e) {
            return THROWS;
        }
    }

    static long bits(int... blocks) {
        long bits = 0L;
        for (int b : blocks) {
            bits |= 1L << b;
        }
        return bits;
    }

    /** Each row is a block and its targets; all blocks are told before the first target is. */
    static BlockWays graph(int[]... rows) {
        BlockWays ways = new BlockWays();
        for (int[] row : rows) {
            ways.block(row[0]);
        }
        for (int[] row : rows) {
            for (int i = 1; i < row.length; i++) {
                ways.target(row[0], row[i]);
            }
        }
        return ways;
    }

    static int[] row(int... blockAndTargets) {
        return blockAndTargets;
    }

    void end() {
        System.out.println(wrong == 0 ? asked + " answers are as due" : wrong + " of " + asked + " answers are not as due");
        if (wrong != 0) {
            System.exit(1);
        }
    }
}
