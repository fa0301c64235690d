/** Counts and prints the answers that are not as due; used by every test of the project. */
final class Check {
    static final long ALL = (1L << 40) - 1L;
    /** Next to the bounds, the ends of int, and what a shift, byte or short would take for a block. */
    static final int[] NO_BLOCKS = {
        -1, 40, Integer.MIN_VALUE, Integer.MAX_VALUE, 41, 63, 64, 65, 103, 104, -24, -25, -39, -40, -63, -64,
        256, 295, 65536, 65575, Integer.MIN_VALUE + 1, Integer.MIN_VALUE + 39, Integer.MAX_VALUE - 1
    };
    static final int[] NO_WHATS = {
        -1, 6, Integer.MIN_VALUE, Integer.MAX_VALUE, 7, 8, 32, 64, -5, -64, 256, 261, 65536, 65541, Integer.MIN_VALUE + 5
    };

    private int wrong = 0;
    private int asked = 0;
    private String where = "";

    void at(String place) {
        where = place;
    }

    /** Names the part of the document and its words that the answers which follow are due to. */
    void at(String section, String sentence) {
        where = section + ", \"" + sentence + "\"";
    }

    void due(String call, long got, long want) {
        asked++;
        if (got != want) {
            wrong++;
            System.out.println(where + ": " + call + " answered " + got + ", due is " + want);
        }
    }

    void due(String call, boolean got, boolean want) {
        due(call, got ? 1L : 0L, want ? 1L : 0L);
    }

    /** All that can be asked (407 calls), of an object and of one that must be in the same state. */
    void compare(String state, Counted got, Counted want) {
        for (int what = 0; what < 6; what++) {
            due(state + ": count(" + what + ")", got.count(what), want.count(what));
        }
        for (int b = 0; b < 40; b++) {
            due(state + ": lid(" + b + ")", got.lid(b), want.lid(b));
            due(state + ": meeting(" + b + ")", got.meeting(b), want.meeting(b));
            due(state + ": depth(" + b + ")", got.depth(b), want.depth(b));
            due(state + ": inner(" + b + ")", got.inner(b), want.inner(b));
            for (int what = 0; what < 6; what++) {
                due(state + ": set(" + what + ", " + b + ")", got.set(what, b), want.set(what, b));
            }
        }
        due(state + ": joins(-1)", got.joins(-1L), want.joins(-1L));
    }

    void counts(String state, Counted ways, int... want) {
        for (int what = 0; what < want.length; what++) {
            due(state + ": count(" + what + ")", ways.count(what), want[what]);
        }
    }

    void sets(String state, Counted ways, int what, long... want) {
        for (int b = 0; b < want.length; b++) {
            due(state + ": set(" + what + ", " + b + ")", ways.set(what, b), want[b]);
        }
    }

    static long bits(int... blocks) {
        long bits = 0L;
        for (int b : blocks) {
            bits |= 1L << b;
        }
        return bits;
    }

    /** The blocks first .. last. */
    static long span(int first, int last) {
        long bits = 0L;
        for (int b = first; b <= last; b++) {
            bits |= 1L << b;
        }
        return bits;
    }

    void end() {
        System.out.println(wrong == 0 ? asked + " answers are as due" : wrong + " of " + asked + " answers are not as due");
        if (wrong != 0) {
            System.exit(1);
        }
    }
}
