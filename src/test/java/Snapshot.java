import java.util.ArrayList;
import java.util.HashMap;
import java.util.List;
import java.util.Map;

/** The answers to all questions that a TreeComparer can be asked after some calls, and all its prices. */
final class Snapshot {
    private static final Map<List<String>, String> TAKEN = new HashMap<>();

    private final List<String> calls;
    private final StringBuilder text = new StringBuilder();
    private TreeComparer comparer;
    private int made;

    private Snapshot(List<String> calls) {
        this.calls = calls;
    }

    static String after(List<String> calls, String... more) {
        List<String> all = new ArrayList<>(calls);
        all.addAll(List.of(more));
        return TAKEN.computeIfAbsent(all, Snapshot::take);
    }

    private static String take(List<String> calls) {
        Snapshot shot = new Snapshot(calls);
        for (int tree = 0; tree < 2; tree++) {
            shot.lookAt(tree);
        }
        shot.askAll();
        for (int kind = 0; kind < 4; kind++) {
            shot.askPrices(kind);
        }
        return shot.text.toString();
    }

    /** An object answers 512 calls, so each group of questions gets one of its own. */
    private void begin() {
        comparer = new TreeComparer();
        made = 0;
        for (String call : calls) {
            make(call);
        }
    }

    private String make(String call) {
        made++;
        if (made > Run.MOST_CALLS) {
            throw new IllegalStateException("more calls than an object answers: " + call);
        }
        return Run.answerOf(comparer, call);
    }

    private void ask(String call) {
        text.append(call).append(" = ").append(make(call)).append('\n');
    }

    private int number(String call) {
        return Integer.parseInt(make(call));
    }

    private void lookAt(int tree) {
        begin();
        int n = number("nodes(" + tree + ")");
        ask("nodes(" + tree + ")");
        for (int x = 0; x < n; x++) {
            String node = "(" + tree + "," + x + ")";
            for (String question : List.of("parentOf", "kindOf", "labelOf", "children", "inPreorder", "inPostorder",
                    "subtreeSize", "isKeyroot")) {
                ask(question + node);
            }
            int children = number("children" + node);
            for (int place = 0; place < children; place++) {
                ask("childAt(" + tree + "," + x + "," + place + ")");
            }
        }
    }

    private void askAll() {
        begin();
        for (String question : List.of("distance", "distanceByForests", "topDownDistance", "similarity", "pairs",
                "steps", "differentSubtrees", "moves", "distanceWithMoves")) {
            ask(question + "()");
        }
        askSteps(number("steps()"));
        int n = number("nodes(0)");
        for (int x = 0; x < n; x++) {
            ask("partnerOf(" + x + ")");
            ask("movesTo(" + x + ")");
        }
        askPairs("subtreeDistance");
        askPairs("canBePaired");
        askPairs("areEqual");
        askForests("labelAfter");
        askForests("depthAfter");
    }

    private void askSteps(int steps) {
        for (int step = 0; step < steps; step++) {
            ask("stepKind(" + step + ")");
            ask("stepNode(" + step + ")");
            ask("stepPrice(" + step + ")");
        }
    }

    private void askPairs(String question) {
        begin();
        int n = number("nodes(0)");
        int m = number("nodes(1)");
        for (int a = 0; a < n; a++) {
            for (int b = 0; b < m; b++) {
                ask(question + "(" + a + "," + b + ")");
            }
        }
    }

    private void askForests(String question) {
        begin();
        int steps = number("steps()");
        for (int n = 0; n <= steps; n++) {
            int size = number("sizeAfter(" + n + ")");
            text.append("size ").append(size).append('\n');
            for (int place = 0; place < size; place++) {
                ask(question + "(" + n + "," + place + ")");
            }
        }
    }

    /** New trees tell the prices of every kind, also of those that the trees did not hold. */
    private void askPrices(int kind) {
        begin();
        ask("setMovePrice(0)");
        int other = (kind + 1) % 4;
        make("clear(0)");
        make("clear(1)");
        make("addRoot(0, " + kind + ", 1)");
        ask("stepPrice(0)");
        make("swapTrees()");
        ask("stepPrice(0)");
        make("addRoot(0, " + kind + ", 2)");
        makeRootsDearToLeave(other);
        ask("topDownDistance()");
    }

    /** With a dear child each, the roots are paired top-down whatever a relabelling costs. */
    private void makeRootsDearToLeave(int other) {
        make("setPrices(" + other + ", 50, 50, 50)");
        make("add(0, 0, 0, " + other + ", 0)");
        make("add(1, 0, 0, " + other + ", 0)");
    }
}
