import java.util.ArrayList;
import java.util.List;

/**
 * The document's terms, written down word by word and slowly, to compare BlockWays with. OVER and
 * BEHIND come from listing all ways without repeats where there are few blocks, and from the
 * equations over sources and targets where there are too many ways to list.
 */
final class Model {
    static final int N = 40;

    private final boolean listing;
    private final boolean[] told = new boolean[N];
    private final List<List<Integer>> targets = new ArrayList<>();
    private final boolean[][] leads = new boolean[N][N];
    private final long[] over = new long[N];
    private final long[] behind = new long[N];
    private final boolean[] reached = new boolean[N];
    private final boolean[] good = new boolean[N];
    private final long[] rounds = new long[N];
    private final long[] edges = new long[N];

    Model(boolean listing) {
        this.listing = listing;
        for (int b = 0; b < N; b++) {
            targets.add(new ArrayList<>());
        }
    }

    private static boolean in(long set, int b) {
        return (set >> b & 1L) != 0L;
    }

    private static boolean isBlock(int b) {
        return b >= 0 && b < N;
    }

    boolean block(int b) {
        if (!isBlock(b) || told[b]) {
            return false;
        }
        told[b] = true;
        return true;
    }

    boolean target(int b, int to) {
        if (!isBlock(b) || !told[b] || !isBlock(to) || targets.get(b).size() == 4) {
            return false;
        }
        targets.get(b).add(to);
        return true;
    }

    boolean drop(int b) {
        if (!isBlock(b) || !told[b]) {
            return false;
        }
        told[b] = false;
        targets.get(b).clear();
        return true;
    }

    private boolean step(int from, int to) {
        return told[from] && told[to] && targets.get(from).contains(to);
    }

    private boolean isEnd(int b) {
        return told[b] && targets.get(b).isEmpty();
    }

    /** To be called after changes and before questions. */
    void study() {
        closeOver(leads, -1, false);
        for (int b = 0; b < N; b++) {
            reached[b] = told[0] && (b == 0 || leads[0][b]);
            good[b] = leadsToEnd(b);
            over[b] = reached(b) ? -1L : 0L;
            behind[b] = good(b) ? -1L : 0L;
        }
        if (listing) {
            if (told[0]) {
                listFrom(0, 0, 0L, true);
            }
            for (int b = 0; b < N; b++) {
                if (good(b)) {
                    listFrom(b, b, 0L, false);
                }
            }
        } else {
            solve();
        }
        for (int h = 0; h < N; h++) {
            rounds[h] = findRound(h);
            edges[h] = set(3, h);
        }
    }

    /** Which block leads to which; without a block, or without the steps to HEADS OVER a block. */
    private void closeOver(boolean[][] row, int without, boolean forwardOnly) {
        for (int i = 0; i < N; i++) {
            for (int k = 0; k < N; k++) {
                boolean counts = step(i, k) && i != without && k != without;
                row[i][k] = counts && !(forwardOnly && isOver(k, i));
            }
        }
        for (int m = 0; m < N; m++) {
            for (int i = 0; i < N; i++) {
                for (int k = 0; row[i][m] && k < N; k++) {
                    row[i][k] |= row[m][k];
                }
            }
        }
    }

    private void listFrom(int first, int b, long path, boolean forOver) {
        long here = path | 1L << b;
        if (forOver) {
            over[b] &= here;
        } else if (isEnd(b)) {
            behind[first] &= here;
        }
        for (int t : targets.get(b)) {
            if (told[t] && !in(here, t)) {
                listFrom(first, t, here, forOver);
            }
        }
    }

    private void solve() {
        for (int turn = 0; turn < N + 1; turn++) {
            for (int b = 0; b < N; b++) {
                if (reached(b)) {
                    long all = b == 0 ? 0L : -1L;
                    for (int p = 0; p < N; p++) {
                        all &= reached(p) && step(p, b) ? over[p] : -1L;
                    }
                    over[b] = all | 1L << b;
                }
                if (good(b)) {
                    long all = isEnd(b) ? 0L : -1L;
                    for (int t = 0; t < N; t++) {
                        all &= good(t) && step(b, t) ? behind[t] : -1L;
                    }
                    behind[b] = all | 1L << b;
                }
            }
        }
    }

    boolean reached(int b) {
        return reached[b];
    }

    boolean good(int b) {
        return good[b];
    }

    private boolean leadsToEnd(int b) {
        boolean found = isEnd(b);
        for (int e = 0; e < N; e++) {
            found |= isEnd(e) && leads[b][e];
        }
        return found;
    }

    private boolean isOver(int d, int b) {
        return reached(d) && reached(b) && in(over[b], d);
    }

    private boolean isBehind(int d, int b) {
        return good(d) && good(b) && in(behind[b], d);
    }

    private boolean closes(int x, int h) {
        return reached(x) && step(x, h) && isOver(h, x);
    }

    long round(int h) {
        return rounds[h];
    }

    private long findRound(int h) {
        long closing = 0L;
        for (int x = 0; x < N; x++) {
            closing |= closes(x, h) ? 1L << x : 0L;
        }
        if (closing == 0L) {
            return 0L;
        }
        boolean[][] without = new boolean[N][N];
        closeOver(without, h, false);
        long round = closing | 1L << h;
        for (int y = 0; y < N; y++) {
            for (int x = 0; x < N; x++) {
                if (reached(y) && in(closing, x) && without[y][x]) {
                    round |= 1L << y;
                }
            }
        }
        return round;
    }

    private boolean onEdge(int b, int x) {
        boolean comes = false;
        for (int p = 0; p < N; p++) {
            comes |= step(p, x) && isOver(b, p);
        }
        return reached(b) && reached(x) && comes && (!isOver(b, x) || b == x);
    }

    private boolean hangs(int x, int b) {
        boolean comes = false;
        for (int t = 0; t < N; t++) {
            comes |= step(b, t) && isBehind(x, t);
        }
        return good(x) && good(b) && comes && (!isBehind(x, b) || x == b);
    }

    int lid(int b) {
        for (int m = 0; isBlock(b) && m < N; m++) {
            boolean is = m != b && isOver(m, b);
            for (int d = 0; d < N; d++) {
                is &= d == b || !isOver(d, b) || isOver(d, m);
            }
            if (is) {
                return m;
            }
        }
        return -1;
    }

    int meeting(int b) {
        for (int m = 0; isBlock(b) && m < N; m++) {
            boolean is = m != b && isBehind(m, b);
            for (int d = 0; d < N; d++) {
                is &= d == b || !isBehind(d, b) || isBehind(d, m);
            }
            if (is) {
                return m;
            }
        }
        return -1;
    }

    long set(int what, int b) {
        if (!isBlock(b) || what < 0 || what > 5) {
            return 0L;
        }
        if (what == 2) {
            return round(b);
        }
        long set = 0L;
        for (int k = 0; k < N; k++) {
            boolean is = what == 0 ? isOver(k, b)
                    : what == 1 ? isBehind(k, b)
                    : what == 3 ? onEdge(b, k)
                    : what == 4 ? hangs(b, k)
                    : isOver(b, k);
            set |= is ? 1L << k : 0L;
        }
        return set;
    }

    int depth(int b) {
        if (!isBlock(b) || !reached(b)) {
            return -1;
        }
        int depth = 0;
        for (int h = 0; h < N; h++) {
            depth += in(round(h), b) ? 1 : 0;
        }
        return depth;
    }

    int inner(int b) {
        int best = Counted.THROWS;
        for (int h = N - 1; isBlock(b) && h >= 0; h--) {
            long round = round(h);
            if (in(round, b) && (best < 0 || Long.bitCount(round) <= Long.bitCount(round(best)))) {
                best = h;
            }
        }
        return best;
    }

    long joins(long blocks) {
        long joined = 0L;
        long before = -1L;
        while (joined != before) {
            before = joined;
            for (int b = 0; b < N; b++) {
                joined |= in(blocks | joined, b) ? edges[b] : 0L;
            }
        }
        return joined;
    }

    private boolean plain() {
        boolean[][] row = new boolean[N][N];
        closeOver(row, -1, true);
        boolean plain = true;
        for (int b = 0; b < N; b++) {
            plain &= !(reached(b) && row[b][b]);
        }
        return plain;
    }

    int count(int what) {
        int count = 0;
        for (int b = 0; b < N && what >= 0 && what < 4; b++) {
            boolean is = what == 0 ? told[b] : what == 1 ? reached(b) : what == 2 ? good(b) : round(b) != 0L;
            count += is ? 1 : 0;
        }
        for (int b = 0; b < N && what == 4; b++) {
            count = Math.max(count, depth(b));
        }
        if (what == 5) {
            return plain() ? 1 : 0;
        }
        return what < 0 || what > 5 ? -1 : count;
    }
}
