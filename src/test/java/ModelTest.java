import java.util.Random;

/** Compares runs of calls, the same ones each time, with the document's terms written out. */
public final class ModelTest {
    private static final int[] ODD = {-1, 40, 41, 63, 64, 104, -64, Integer.MIN_VALUE, Integer.MAX_VALUE};

    private final Check check = new Check();
    private final Random random = new Random(20261115L);

    public static void main(String[] args) {
        ModelTest test = new ModelTest();
        for (int run = 0; run < 600; run++) {
            test.few(run);
        }
        for (int run = 0; run < 40; run++) {
            test.many(run);
        }
        test.check.end();
    }

    /** Changes and questions in turns on up to seven blocks, whose ways can all be listed. */
    private void few(int run) {
        check.at("few blocks, run " + run);
        int[] names = {0, 1, 39, 2 + random.nextInt(10), 12 + random.nextInt(10), 22 + random.nextInt(10), 32 + random.nextInt(7)};
        BlockWays ways = new BlockWays();
        Model model = new Model(true);
        int share = 1 + random.nextInt(5);
        for (int name : names) {
            block(ways, model, name);
        }
        for (int i = 0; i < 60; i++) {
            change(ways, model, names, share);
            if (i % 6 == 5) {
                model.study();
                askSome(ways, model, names);
            }
        }
        model.study();
        askAll(ways, model);
    }

    private void many(int run) {
        check.at("many blocks, run " + run);
        BlockWays ways = new BlockWays();
        Model model = new Model(false);
        int reach = 1 + random.nextInt(12);
        for (int b = 0; b < 40; b++) {
            block(ways, model, b);
        }
        for (int b = 0; b < 40; b++) {
            int wanted = random.nextInt(run % 4 + 2);
            target(ways, model, b, run % 2 == 0 ? (b + 1) % 40 : (b + 39) % 40);
            for (int i = 0; i < wanted; i++) {
                target(ways, model, b, Math.floorMod(b + random.nextInt(2 * reach + 1) - reach, 40));
            }
        }
        for (int i = 0; i < 3; i++) {
            int b = 1 + random.nextInt(39);
            drop(ways, model, b);
            block(ways, model, b);
        }
        model.study();
        askAll(ways, model);
    }

    private void change(BlockWays ways, Model model, int[] names, int share) {
        int b = any(names);
        switch (random.nextInt(8 + share)) {
            case 0:
                drop(ways, model, b);
                break;
            case 1:
            case 2:
                block(ways, model, b);
                break;
            default:
                target(ways, model, b, any(names));
                break;
        }
    }

    private int any(int[] names) {
        return random.nextInt(40) == 0 ? ODD[random.nextInt(ODD.length)] : names[random.nextInt(names.length)];
    }

    private void block(BlockWays ways, Model model, int b) {
        check.due("block(" + b + ")", ways.block(b), model.block(b));
    }

    private void target(BlockWays ways, Model model, int b, int to) {
        check.due("target(" + b + ", " + to + ")", ways.target(b, to), model.target(b, to));
    }

    private void drop(BlockWays ways, Model model, int b) {
        check.due("drop(" + b + ")", ways.drop(b), model.drop(b));
    }

    private void askSome(BlockWays ways, Model model, int[] names) {
        for (int i = 0; i < 2; i++) {
            askOne(ways, model, random.nextInt(7), any(names));
            askSet(ways, model, random.nextInt(7) - 1, any(names));
        }
    }

    private void askAll(BlockWays ways, Model model) {
        for (int what = -1; what <= 6; what++) {
            askOne(ways, model, 0, what);
        }
        for (int b = -1; b <= 40; b++) {
            for (int kind = 1; kind <= 5; kind++) {
                askOne(ways, model, kind, b);
            }
            for (int what = -1; what <= 6; what++) {
                askSet(ways, model, what, b);
            }
        }
    }

    private void askOne(BlockWays ways, Model model, int kind, int b) {
        switch (kind) {
            case 0:
                check.due("count(" + b + ")", ways.count(b), model.count(b));
                break;
            case 1:
                check.due("lid(" + b + ")", ways.lid(b), model.lid(b));
                break;
            case 2:
                check.due("meeting(" + b + ")", ways.meeting(b), model.meeting(b));
                break;
            case 3:
                check.due("depth(" + b + ")", ways.depth(b), model.depth(b));
                break;
            case 4:
                check.due("inner(" + b + ")", Check.inner(ways, b), model.inner(b));
                break;
            default:
                long blocks = random.nextLong() & random.nextLong() & random.nextLong();
                check.due("joins(" + blocks + ")", ways.joins(blocks), model.joins(blocks));
                break;
        }
    }

    private void askSet(BlockWays ways, Model model, int what, int b) {
        check.due("set(" + what + ", " + b + ")", ways.set(what, b), model.set(what, b));
    }
}
