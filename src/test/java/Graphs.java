/** Graphs that several tests ask about. */
final class Graphs {
    private Graphs() {
    }

    private static int[] row(int... blockAndTargets) {
        return Counted.row(blockAndTargets);
    }

    /** The round 2, 3 within the round 1, 2, 3, 4; 5 is the END. */
    static Counted nested() {
        return Counted.graph(row(0, 1), row(1, 2, 5), row(2, 3), row(3, 2, 4), row(4, 1), row(5));
    }

    /** 0, 39, 38, .. 1: each way is the longest possible, against the order of the numbers. */
    static Counted chain() {
        int[][] rows = new int[40][];
        rows[0] = row(0, 39);
        rows[1] = row(1);
        for (int b = 2; b < 40; b++) {
            rows[b] = row(b, b - 1);
        }
        return Counted.graph(rows);
    }

    /** Twenty rounds, each within the one before: head h is closed by block 39 - h. */
    static Counted onion() {
        int[][] rows = new int[40][];
        for (int b = 0; b < 40; b++) {
            rows[b] = b < 20 ? row(b, b + 1) : b < 39 ? row(b, b + 1, 39 - b) : row(39, 0);
        }
        return Counted.graph(rows);
    }

    /**
     * Forty rounds, each within the one before: 0, 1, .. 39 in a chain, and the steps back of every
     * third block close the round of every head h, which is h .. 39.
     */
    static Counted deepest() {
        int[][] rows = new int[40][];
        for (int b = 0; b < 39; b++) {
            rows[b] = b > 0 && b % 3 == 0 ? row(b, b + 1, b - 1, b - 2, b - 3) : row(b, b + 1);
        }
        rows[39] = row(39, 39, 38, 37, 36);
        return Counted.graph(rows);
    }

    /** All 40 blocks with 4 TARGETS each, the next four round a ring. */
    static Counted ring() {
        int[][] rows = new int[40][];
        for (int b = 0; b < 40; b++) {
            rows[b] = row(b, (b + 1) % 40, (b + 2) % 40, (b + 3) % 40, (b + 4) % 40);
        }
        return Counted.graph(rows);
    }

    /** 1 and 2 lead to one another, and both are entered from 0: no round, and not plain. */
    static Counted tangle() {
        return Counted.graph(row(0, 1, 2), row(1, 2), row(2, 1, 3), row(3));
    }
}
