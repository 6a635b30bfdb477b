import java.util.ArrayList;
import java.util.List;

/** The answers to all questions that a TreeComparer can be asked after some calls. */
final class Snapshot {
    private final List<String> calls;
    private final StringBuilder text = new StringBuilder();
    private TreeComparer comparer;

    private Snapshot(List<String> calls) {
        this.calls = calls;
    }

    static String after(List<String> calls, String... more) {
        List<String> all = new ArrayList<>(calls);
        all.addAll(List.of(more));
        Snapshot shot = new Snapshot(all);
        for (int tree = 0; tree < 2; tree++) {
            shot.lookAt(tree);
        }
        shot.askAll();
        return shot.text.toString();
    }

    /** An object answers 512 calls, so each group of questions gets one of its own. */
    private void begin() {
        comparer = new TreeComparer();
        for (String call : calls) {
            Run.answerOf(comparer, call);
        }
    }

    private void ask(String call) {
        text.append(call).append(" = ").append(Run.answerOf(comparer, call)).append('\n');
    }

    private void lookAt(int tree) {
        begin();
        int n = comparer.nodes(tree);
        ask("nodes(" + tree + ")");
        for (int x = 0; x < n; x++) {
            String node = "(" + tree + "," + x + ")";
            for (String question : List.of("parentOf", "kindOf", "labelOf", "children", "inPreorder", "inPostorder",
                    "subtreeSize", "isKeyroot")) {
                ask(question + node);
            }
            for (int place = 0; place < comparer.children(tree, x); place++) {
                ask("childAt(" + tree + "," + x + "," + place + ")");
            }
        }
    }

    private void askAll() {
        begin();
        for (String question : List.of("distance", "distanceByForests", "topDownDistance", "similarity", "pairs",
                "steps", "differentSubtrees", "moves", "distanceWithMoves")) {
            ask(question + "()");
        }
        askSteps(comparer.steps());
        for (int x = 0; x < comparer.nodes(0); x++) {
            ask("partnerOf(" + x + ")");
            ask("movesTo(" + x + ")");
        }
        askPairs("subtreeDistance");
        askPairs("canBePaired");
        askPairs("areEqual");
        askForests("labelAfter");
        askForests("depthAfter");
        begin();
        int last = Integer.parseInt(Run.answerOf(comparer, "setMovePrice(0)"));
        text.append("the price of a move = ").append(last).append('\n');
    }

    private void askSteps(int steps) {
        for (int step = 0; step < steps; step++) {
            ask("stepKind(" + step + ")");
            ask("stepNode(" + step + ")");
            ask("stepPrice(" + step + ")");
        }
    }

    private void askPairs(String question) {
        begin();
        for (int a = 0; a < comparer.nodes(0); a++) {
            for (int b = 0; b < comparer.nodes(1); b++) {
                ask(question + "(" + a + "," + b + ")");
            }
        }
    }

    private void askForests(String question) {
        begin();
        int steps = comparer.steps();
        for (int n = 0; n <= steps; n++) {
            ask("sizeAfter(" + n + ")");
            int size = comparer.sizeAfter(n);
            for (int place = 0; place < size; place++) {
                ask(question + "(" + n + "," + place + ")");
            }
        }
    }
}
