import java.util.StringJoiner;

/** Runs of 512 calls, right and wrong ones, each answer compared with that of the model. */
public final class RandomRunsTest {
    private static final int RUNS = 160;
    private static final String[] CHANGES = {"setLabel 2", "setPrices 4", "setMovePrice 1", "swapTrees 0", "clear 1"};
    private static final String[] QUESTIONS = {"nodes 1", "parentOf 2", "kindOf 2", "labelOf 2", "children 2",
        "childAt 3", "inPreorder 2", "inPostorder 2", "subtreeSize 2", "isKeyroot 2", "distance 0",
        "distanceByForests 0", "subtreeDistance 2", "topDownDistance 0", "similarity 0", "pairs 0", "partnerOf 1",
        "canBePaired 2", "steps 0", "stepKind 1", "stepNode 1", "stepPrice 1", "sizeAfter 1", "labelAfter 2",
        "depthAfter 2", "areEqual 2", "differentSubtrees 0", "moves 0", "movesTo 1", "distanceWithMoves 0"};

    private final TreeComparer comparer = new TreeComparer();
    private final Model model = new Model();
    private final String about;
    private final int kinds;
    private final int labels;
    private final int most;
    private final int prices;
    private final int shape;
    private long seed;
    private int calls = 0;

    private RandomRunsTest(int run) {
        about = "run " + run;
        seed = run * 7919L + 17;
        kinds = 1 + below(4);
        labels = 1 + below(4);
        most = 2 + below(11);
        prices = new int[] {1, 2, 4, 51}[below(4)];
        shape = below(3);
    }

    /** A generator of its own, so that every machine makes the same runs. */
    private int below(int bound) {
        seed = seed * 6364136223846793005L + 1442695040888963407L;
        return (int) ((seed >>> 33) % bound);
    }

    /** The model is asked, since the object answers 512 calls alone. */
    private int nodes(int tree) {
        return Integer.parseInt(model.answerOf("nodes", tree));
    }

    private void call(String name, int... arguments) {
        if (calls >= 512) {
            return;
        }
        calls++;
        StringJoiner text = new StringJoiner(", ", name + "(", ")");
        for (int argument : arguments) {
            text.add(String.valueOf(argument));
        }
        Run.compare(about + ", call " + calls, text.toString(), Run.answerOf(comparer, text.toString()),
                model.answerOf(name, arguments));
    }

    private void grow(int tree) {
        if (nodes(tree) == 0) {
            call("addRoot", tree, below(kinds), below(labels));
        }
        for (int n = nodes(tree); n < most && calls < 450; n++) {
            int parent = shape == 0 ? below(n) : shape == 1 ? Math.max(0, n - 1 - below(3)) : below(Math.min(n, 3));
            int place = below(Integer.parseInt(model.answerOf("children", tree, parent)) + 1);
            call("add", tree, parent, place, below(kinds), below(labels));
        }
    }

    private void change() {
        String change = CHANGES[below(below(6) == 0 ? CHANGES.length : 3)];
        int tree = below(2);
        if (change.startsWith("setLabel")) {
            call("setLabel", tree, below(nodes(tree) + 1), below(labels));
        } else if (change.startsWith("setPrices")) {
            call("setPrices", below(kinds), below(prices), below(prices), below(prices));
        } else if (change.startsWith("setMovePrice")) {
            call("setMovePrice", below(prices));
        } else {
            random(change);
        }
        if (nodes(tree) < most && below(2) == 0) {
            grow(tree);
        }
    }

    /** Arguments from just below to just above what may be right. */
    private void random(String question) {
        String[] parts = question.split(" ");
        int[] arguments = new int[Integer.parseInt(parts[1])];
        for (int i = 0; i < arguments.length; i++) {
            boolean isTree = i == 0 && CHANGES_OR_TREES.contains(" " + parts[0] + " ");
            arguments[i] = isTree ? below(20) == 0 ? below(4) - 1 : below(2) : below(20) == 0 ? below(16) - 2 : below(most);
        }
        call(parts[0], arguments);
    }

    private static final String CHANGES_OR_TREES =
        " clear nodes parentOf kindOf labelOf children childAt inPreorder inPostorder subtreeSize isKeyroot ";

    private void wrongChange() {
        int[] a = new int[5];
        for (int i = 0; i < 5; i++) {
            a[i] = new int[] {-1, 0, 1, 2, 3, 4, 12, 50, 51, 99, 100, Integer.MIN_VALUE, Integer.MAX_VALUE}[below(13)];
        }
        a[0] = below(3) == 0 ? a[0] : below(2);
        a[3] = below(3) == 0 ? a[3] : below(4);
        switch (below(5)) {
            case 0: call("addRoot", a[0], a[3], a[4]); break;
            case 1: call("add", a[0], a[1], a[2], a[3], a[4]); break;
            case 2: call("setLabel", a[0], a[1], a[2]); break;
            case 3: call("setPrices", a[3], a[1], a[2], a[4]); break;
            default: call("setMovePrice", a[1]);
        }
    }

    private void play() {
        random(QUESTIONS[below(QUESTIONS.length)]);
        grow(0);
        grow(1);
        while (calls < 512) {
            int what = below(40);
            if (what == 0) {
                wrongChange();
            } else if (what < 3) {
                change();
            } else {
                random(QUESTIONS[below(QUESTIONS.length)]);
            }
        }
    }

    public static void main(String[] args) {
        for (int run = 0; run < RUNS; run++) {
            new RandomRunsTest(run).play();
        }
        Run.end("RandomRunsTest");
    }
}
