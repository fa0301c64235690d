/** All graphs of three blocks, compared with the document's terms written out. */
public final class EveryGraphTest {
    private static final int TOLD = 3;
    /** The last of them is not told: a TARGET that leads nowhere. */
    private static final int TARGETS = 4;

    private final Check check = new Check();

    public static void main(String[] args) {
        EveryGraphTest test = new EveryGraphTest();
        for (int graph = 0; graph < 1 << TOLD * TARGETS; graph++) {
            test.graph(graph);
        }
        test.check.end();
    }

    private void graph(int graph) {
        check.at("graph " + Integer.toBinaryString(graph));
        Counted ways = new Counted();
        Model model = new Model(true);
        for (int b = 0; b < TOLD; b++) {
            check.due("block(" + b + ")", ways.block(b), model.block(b));
        }
        for (int b = 0; b < TOLD; b++) {
            for (int to = 0; to < TARGETS; to++) {
                if ((graph >> b * TARGETS + to & 1) != 0) {
                    check.due("target(" + b + ", " + to + ")", ways.target(b, to), model.target(b, to));
                }
            }
        }
        model.study();
        ask(ways, model);
    }

    private void ask(Counted ways, Model model) {
        for (int what = 0; what < 6; what++) {
            check.due("count(" + what + ")", ways.count(what), model.count(what));
        }
        for (int b = 0; b < TARGETS; b++) {
            check.due("lid(" + b + ")", ways.lid(b), model.lid(b));
            check.due("meeting(" + b + ")", ways.meeting(b), model.meeting(b));
            check.due("depth(" + b + ")", ways.depth(b), model.depth(b));
            check.due("inner(" + b + ")", ways.inner(b), model.inner(b));
            for (int what = 0; what < 6; what++) {
                check.due("set(" + what + ", " + b + ")", ways.set(what, b), model.set(what, b));
            }
        }
        for (long blocks = 0L; blocks < 1L << TARGETS; blocks++) {
            check.due("joins(" + blocks + ")", ways.joins(blocks), model.joins(blocks));
        }
    }
}
