import java.util.ArrayList;
import java.util.List;
import java.util.Random;

/** Compares runs of calls, the same ones each time, with the document's terms written out. */
public final class ModelTest {
    /** So many blocks' questions go to one object, which must not be asked too often. */
    private static final int SHARE = 14;

    private final Check check = new Check();
    private final Random random = new Random(20261115L);
    /** The changes of the run so far: a number for the call, the block, the target. */
    private final List<int[]> changes = new ArrayList<>();

    public static void main(String[] args) {
        ModelTest test = new ModelTest();
        for (int run = 0; run < 600; run++) {
            test.few(run);
        }
        for (int run = 0; run < 40; run++) {
            test.many(run);
        }
        test.check.end();
    }

    /** Changes and questions in turns on up to seven blocks, whose ways can all be listed. */
    private void few(int run) {
        check.at("few blocks, run " + run);
        changes.clear();
        int[] names = {0, 1, 39, 2 + random.nextInt(10), 12 + random.nextInt(10), 22 + random.nextInt(10), 32 + random.nextInt(7)};
        Counted ways = new Counted();
        Model model = new Model(true);
        int share = 1 + random.nextInt(5);
        for (int name : names) {
            block(ways, model, name);
        }
        for (int i = 0; i < 60; i++) {
            change(ways, model, names, share);
            if (i % 6 == 5) {
                model.study();
                askSome(ways, model, names);
            }
        }
        model.study();
        askAll(model);
    }

    private void many(int run) {
        check.at("many blocks, run " + run);
        changes.clear();
        Counted ways = new Counted();
        Model model = new Model(false);
        int reach = 1 + random.nextInt(12);
        for (int b = 0; b < 40; b++) {
            block(ways, model, b);
        }
        for (int b = 0; b < 40; b++) {
            int wanted = random.nextInt(run % 4 + 2);
            target(ways, model, b, run % 2 == 0 ? (b + 1) % 40 : (b + 39) % 40);
            for (int i = 0; i < wanted; i++) {
                target(ways, model, b, Math.floorMod(b + random.nextInt(2 * reach + 1) - reach, 40));
            }
        }
        for (int i = 0; i < 3; i++) {
            int b = 1 + random.nextInt(39);
            drop(ways, model, b);
            block(ways, model, b);
        }
        model.study();
        askAll(model);
    }

    private void change(Counted ways, Model model, int[] names, int share) {
        int b = any(names);
        switch (random.nextInt(8 + share)) {
            case 0:
                drop(ways, model, b);
                break;
            case 1:
            case 2:
                block(ways, model, b);
                break;
            default:
                target(ways, model, b, any(names));
                break;
        }
    }

    private int any(int[] names) {
        return random.nextInt(40) == 0 ? Check.NO_BLOCKS[random.nextInt(Check.NO_BLOCKS.length)] : names[random.nextInt(names.length)];
    }

    private void block(Counted ways, Model model, int b) {
        changes.add(new int[] {0, b, 0});
        check.due("block(" + b + ")", ways.block(b), model.block(b));
    }

    private void target(Counted ways, Model model, int b, int to) {
        changes.add(new int[] {1, b, to});
        check.due("target(" + b + ", " + to + ")", ways.target(b, to), model.target(b, to));
    }

    private void drop(Counted ways, Model model, int b) {
        changes.add(new int[] {2, b, 0});
        check.due("drop(" + b + ")", ways.drop(b), model.drop(b));
    }

    private void askSome(Counted ways, Model model, int[] names) {
        for (int i = 0; i < 2; i++) {
            askOne(ways, model, random.nextInt(7), any(names));
            askSet(ways, model, random.nextInt(7) - 1, any(names));
        }
    }

    private void askAll(Model model) {
        for (int first = -1; first <= 40; first += SHARE) {
            Counted ways = again();
            for (int what = -1; what <= 6; what++) {
                askOne(ways, model, 0, what);
            }
            for (int b = first; b <= 40 && b < first + SHARE; b++) {
                askAbout(ways, model, b);
            }
        }
    }

    private void askAbout(Counted ways, Model model, int b) {
        for (int kind = 1; kind <= 5; kind++) {
            askOne(ways, model, kind, b);
        }
        for (int what = -1; what <= 6; what++) {
            askSet(ways, model, what, b);
        }
    }

    /** A new object with all the changes of the run. */
    private Counted again() {
        Counted ways = new Counted();
        for (int[] change : changes) {
            if (change[0] == 0) {
                ways.block(change[1]);
            } else if (change[0] == 1) {
                ways.target(change[1], change[2]);
            } else {
                ways.drop(change[1]);
            }
        }
        return ways;
    }

    private void askOne(Counted ways, Model model, int kind, int b) {
        switch (kind) {
            case 0:
                check.due("count(" + b + ")", ways.count(b), model.count(b));
                break;
            case 1:
                check.due("lid(" + b + ")", ways.lid(b), model.lid(b));
                break;
            case 2:
                check.due("meeting(" + b + ")", ways.meeting(b), model.meeting(b));
                break;
            case 3:
                check.due("depth(" + b + ")", ways.depth(b), model.depth(b));
                break;
            case 4:
                check.due("inner(" + b + ")", ways.inner(b), model.inner(b));
                break;
            default:
                long blocks = random.nextLong() & random.nextLong() & random.nextLong();
                check.due("joins(" + blocks + ")", ways.joins(blocks), model.joins(blocks));
                break;
        }
    }

    private void askSet(Counted ways, Model model, int what, int b) {
        check.due("set(" + what + ", " + b + ")", ways.set(what, b), model.set(what, b));
    }
}
