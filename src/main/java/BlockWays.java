import java.util.NoSuchElementException;

/**
 * Blocks of a program and the ways through them. A set of blocks is a long throughout: block k is
 * the bit 2^k.
 */
public final class BlockWays {
    public static final int NONE = -1;

    private static final int BLOCKS = 40;
    private static final int MOST_TARGETS = 4;

    private long told;
    private final int[] targetCounts;
    /** The ways from block 0, along the targets: what is REACHED, OVER, EDGE. */
    private final Spread onward;
    /** The same ways walked from the ENDs, against the targets: what is GOOD, BEHIND, HANGS. */
    private final Spread backward;
    private final Rounds rounds;
    private boolean onwardStale;
    private boolean backwardStale;

    public BlockWays() {
        told = 0L;
        targetCounts = new int[BLOCKS];
        onward = new Spread();
        backward = new Spread();
        rounds = new Rounds();
        onwardStale = false;
        backwardStale = false;
    }

    public boolean block(int b) {
        if (!isBlock(b) || has(told, b)) {
            return false;
        }
        told |= bit(b);
        forgetAnswers();
        return true;
    }

    public boolean target(int b, int to) {
        if (!isTold(b) || !isBlock(to) || targetCounts[b] >= MOST_TARGETS) {
            return false;
        }
        // Counted apart from the steps, since a target told again takes a place but is one step.
        targetCounts[b]++;
        onward.addStep(b, to);
        backward.addStep(to, b);
        forgetAnswers();
        return true;
    }

    public boolean drop(int b) {
        if (!isTold(b)) {
            return false;
        }
        told &= ~bit(b);
        targetCounts[b] = 0;
        // Steps of others to b stay: they are targets still, and count again if b is told again.
        onward.removeStepsFrom(b);
        backward.removeStepsTo(b);
        forgetAnswers();
        return true;
    }

    public int count(int what) {
        switch (what) {
            case 0:
                return Long.bitCount(told);
            case 1:
                return Long.bitCount(freshOnward().covered());
            case 2:
                return Long.bitCount(freshBackward().covered());
            case 3:
                return freshRounds().number();
            case 4:
                return freshRounds().deepest();
            case 5:
                return isPlain() ? 1 : 0;
            default:
                return NONE;
        }
    }

    public int lid(int b) {
        return isBlock(b) ? freshOnward().nearestGate(b) : NONE;
    }

    public int meeting(int b) {
        return isBlock(b) ? freshBackward().nearestGate(b) : NONE;
    }

    public long set(int what, int b) {
        if (!isBlock(b)) {
            return 0L;
        }
        switch (what) {
            case 0:
                return freshOnward().gates(b);
            case 1:
                return freshBackward().gates(b);
            case 2:
                return freshRounds().blocksOf(b);
            case 3:
                return freshOnward().rim(b);
            case 4:
                // Walked against the targets, the rim of b is what b hangs on.
                return freshBackward().rim(b);
            case 5:
                return freshOnward().gated(b);
            default:
                return 0L;
        }
    }

    public int depth(int b) {
        if (!isBlock(b) || !has(freshOnward().covered(), b)) {
            return NONE;
        }
        return freshRounds().numberAround(b);
    }

    public int inner(int b) throws NoSuchElementException {
        int head = isBlock(b) ? freshRounds().smallestAround(b) : NONE;
        if (head == NONE) {
            throw new NoSuchElementException("the block is in no round");
        }
        return head;
    }

    public long joins(long blocks) {
        Spread ways = freshOnward();
        long open = blocks & ways.covered();
        long seen = open;
        long joined = 0L;
        int b = lowest(open);
        for (int turn = 0; turn < BLOCKS && b < BLOCKS; turn++) {
            long rim = ways.rim(b);
            joined |= rim;
            open = (open & ~bit(b)) | (rim & ~seen);
            seen |= rim;
            b = lowest(open);
        }
        return joined;
    }

    private static boolean isBlock(int b) {
        return b >= 0 && b < BLOCKS;
    }

    private boolean isTold(int b) {
        return isBlock(b) && has(told, b);
    }

    private static long bit(int b) {
        return 1L << b;
    }

    private static boolean has(long blocks, int b) {
        return (blocks & bit(b)) != 0L;
    }

    /** The least block of some; 64, which is no block, if there is none. */
    private static int lowest(long blocks) {
        return Long.bitCount((blocks & -blocks) - 1L);
    }

    private void forgetAnswers() {
        onwardStale = true;
        backwardStale = true;
    }

    private Spread freshOnward() {
        renewOnward();
        return onward;
    }

    private Rounds freshRounds() {
        renewOnward();
        return rounds;
    }

    private void renewOnward() {
        if (onwardStale) {
            onward.renew(bit(0), told);
            rounds.renew(onward, backward);
            onwardStale = false;
        }
    }

    private Spread freshBackward() {
        if (backwardStale) {
            backward.renew(ends(), told);
            backwardStale = false;
        }
        return backward;
    }

    /** A target that is not told is a target still: a block that has only such ones is no END. */
    private long ends() {
        long ends = 0L;
        for (int b = 0; b < BLOCKS; b++) {
            if (has(told, b) && targetCounts[b] == 0) {
                ends |= bit(b);
            }
        }
        return ends;
    }

    /** Takes away, again and again, what nothing left leads to: only what goes in a circle stays. */
    private boolean isPlain() {
        Spread ways = freshOnward();
        long left = ways.covered();
        for (int turn = 0; turn < BLOCKS && left != 0L; turn++) {
            for (int b = 0; b < BLOCKS; b++) {
                // A source that b is OVER makes b a HEAD, and that step does not count.
                long sources = backward.stepsOf(b) & ~ways.gated(b);
                if ((sources & left) == 0L) {
                    left &= ~bit(b);
                }
            }
        }
        return left == 0L;
    }

    /** All ways in one direction from some first blocks, and what each of them must go through. */
    private static final class Spread {
        private final long[] steps;
        private final long[] gated;
        private long covered;

        Spread() {
            steps = new long[BLOCKS];
            gated = new long[BLOCKS];
            covered = 0L;
        }

        void addStep(int from, int to) {
            steps[from] |= bit(to);
        }

        void removeStepsFrom(int from) {
            steps[from] = 0L;
        }

        void removeStepsTo(int to) {
            for (int from = 0; from < BLOCKS; from++) {
                steps[from] &= ~bit(to);
            }
        }

        void renew(long first, long allowed) {
            covered = flood(first, allowed);
            for (int d = 0; d < BLOCKS; d++) {
                // What can't be come to any more once d is shut lies behind the gate d.
                gated[d] = has(covered, d) ? covered & ~flood(first, covered & ~bit(d)) : 0L;
            }
        }

        /** The blocks to which steps lead from the first ones, over none but those allowed. */
        long flood(long first, long allowed) {
            long found = first & allowed;
            long open = found;
            int b = lowest(open);
            for (int turn = 0; turn < BLOCKS && b < BLOCKS; turn++) {
                long fresh = steps[b] & allowed & ~found;
                found |= fresh;
                open = (open & ~bit(b)) | fresh;
                b = lowest(open);
            }
            return found;
        }

        long covered() {
            return covered;
        }

        long stepsOf(int b) {
            return steps[b];
        }

        /** The blocks to which each way goes through d; d is one of them. */
        long gated(int d) {
            return gated[d];
        }

        /** The blocks through which each way to b goes; b is one of them. */
        long gates(int b) {
            long gates = 0L;
            for (int d = 0; d < BLOCKS; d++) {
                if (has(gated[d], b)) {
                    gates |= bit(d);
                }
            }
            return gates;
        }

        /** The gate of b, but b itself, that lies behind all the others. */
        int nearestGate(int b) {
            long others = gates(b) & ~bit(b);
            long nearest = others;
            for (int d = 0; d < BLOCKS; d++) {
                if (has(others, d)) {
                    nearest &= gated[d];
                }
            }
            return nearest == 0L ? NONE : lowest(nearest);
        }

        /** The blocks one step from what is gated by b that are not gated by it, or are b. */
        long rim(int b) {
            long next = 0L;
            for (int from = 0; from < BLOCKS; from++) {
                if (has(gated[b], from)) {
                    next |= steps[from];
                }
            }
            return next & covered & ~(gated[b] & ~bit(b));
        }
    }

    private static final class Rounds {
        /** By head; no blocks where a block is no head. */
        private final long[] blocks;

        Rounds() {
            blocks = new long[BLOCKS];
        }

        void renew(Spread onward, Spread backward) {
            for (int h = 0; h < BLOCKS; h++) {
                long closing = backward.stepsOf(h) & onward.gated(h);
                long body = backward.flood(closing, onward.covered() & ~bit(h));
                blocks[h] = closing == 0L ? 0L : body | bit(h);
            }
        }

        long blocksOf(int head) {
            return blocks[head];
        }

        int number() {
            int number = 0;
            for (int h = 0; h < BLOCKS; h++) {
                if (blocks[h] != 0L) {
                    number++;
                }
            }
            return number;
        }

        int numberAround(int b) {
            int number = 0;
            for (int h = 0; h < BLOCKS; h++) {
                if (has(blocks[h], b)) {
                    number++;
                }
            }
            return number;
        }

        int deepest() {
            int deepest = 0;
            for (int b = 0; b < BLOCKS; b++) {
                deepest = Math.max(deepest, numberAround(b));
            }
            return deepest;
        }

        /** The head of the round round b with the fewest blocks, the least of several; or NONE. */
        int smallestAround(int b) {
            int head = NONE;
            int fewest = BLOCKS + 1;
            for (int h = 0; h < BLOCKS; h++) {
                int size = Long.bitCount(blocks[h]);
                if (has(blocks[h], b) && size < fewest) {
                    head = h;
                    fewest = size;
                }
            }
            return head;
        }
    }
}
