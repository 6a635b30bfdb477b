import java.util.ArrayList;
import java.util.Arrays;
import java.util.List;

/**
 * "Every question is answered for the trees and prices as they are when it is asked, and changes nothing." Each
 * question is asked after each other one, with and without a change between, and must answer as a new object does.
 */
public final class QuestionsTest {
    private static final String[] EACH = {"nodes(0)", "nodes(1)", "parentOf(0, 1)", "kindOf(1, 1)", "labelOf(0, 1)",
        "children(1, 0)", "childAt(0, 0, 0)", "inPreorder(0, 2)", "inPostorder(1, 0)", "subtreeSize(0, 1)",
        "isKeyroot(1, 2)", "distance()", "distanceByForests()", "subtreeDistance(1, 1)", "subtreeDistance(0, 0)",
        "topDownDistance()", "similarity()", "pairs()", "partnerOf(1)", "partnerOf(2)", "canBePaired(0, 0)",
        "canBePaired(1, 1)", "canBePaired(2, 2)", "steps()", "stepKind(0)", "stepNode(1)", "stepPrice(0)", "sizeAfter(1)",
        "labelAfter(2, 1)", "depthAfter(0, 2)", "depthAfter(3, 2)", "areEqual(1, 1)", "differentSubtrees()", "moves()",
        "movesTo(1)", "movesTo(2)", "distanceWithMoves()", "stepKind(99)", "partnerOf(99)"};
    private static final String[] CHANGES = {"addRoot(0, 1, 3)", "add(0, 1, 0, 2, 5)", "add(1, 0, 1, 1, 4)",
        "setLabel(0, 1, 7)", "setLabel(1, 2, 2)", "clear(0)", "clear(1)", "swapTrees()", "setPrices(1, 6, 2, 0)",
        "setPrices(2, 0, 0, 9)", "setPrices(1, 0, 6, 50)", "setMovePrice(50)", "setMovePrice(0)"};

    private final String about;
    private final String[] before;

    private QuestionsTest(String about, String[] before) {
        this.about = about;
        this.before = before;
    }

    public static void main(String[] args) {
        String[] moved = Grow.both("0.0(1.7(1.8) 2.9 2.9 3.1)", "0.0(2.9 2.9 1.7(1.8) 3.1)", "setPrices(2, 9, 9, 9)");
        String[] relabelled = Grow.both("0.1(1.2(2.3 1.4) 3.5)", "0.2(1.2(1.5) 2.3 3.6(3.5))", "setPrices(1, 3, 4, 5)");
        String[] onlyNew = Grow.tree(1, "1.3(2.5(1.2) 1.7)");
        QuestionsTest[] all = {new QuestionsTest("empty trees", new String[0]), new QuestionsTest("an empty old tree", onlyNew),
            new QuestionsTest("trees with a move", moved), new QuestionsTest("trees with all edits", relabelled),
            new QuestionsTest("full trees", Grow.both(Grow.star("1.2", 11, "2.3"), Grow.chain(12, "2.3")))};
        for (QuestionsTest test : all) {
            test.pairsOfQuestions();
            test.changesBetween();
            test.allInARow();
        }
        Run.end("QuestionsTest");
    }

    private String[] plus(String... more) {
        List<String> calls = new ArrayList<>(Arrays.asList(before));
        calls.addAll(Arrays.asList(more));
        return calls.toArray(new String[0]);
    }

    private void pairsOfQuestions() {
        for (String second : EACH) {
            String due = Run.answerAfter(before, second);
            for (String first : EACH) {
                Run.compare(about, second + " after " + first, Run.answerAfter(plus(first), second), due);
            }
        }
    }

    private void changesBetween() {
        for (String change : CHANGES) {
            for (String second : EACH) {
                String due = Run.answerAfter(plus(change), second);
                for (String first : EACH) {
                    Run.compare(about, second + " after " + first + " and " + change,
                        Run.answerAfter(plus(first, change), second), due);
                }
            }
        }
    }

    /** One object: all questions, a change, all questions, and so on, in another order each time. */
    private void allInARow() {
        TreeComparer comparer = new TreeComparer();
        List<String> made = new ArrayList<>(Arrays.asList(before));
        int calls = made.size();
        made.forEach(call -> Run.answerOf(comparer, call));
        for (int round = 0; calls + EACH.length + 1 <= Run.MOST_CALLS; round++) {
            for (int i = 0; i < EACH.length; i++) {
                String question = EACH[(i * (2 * round + 1) + 7 * round) % EACH.length];
                Run.compare(about + ", round " + round, question, Run.answerOf(comparer, question),
                    Run.answerAfter(made.toArray(new String[0]), question));
            }
            String change = CHANGES[(round * 5 + 1) % CHANGES.length];
            Run.answerOf(comparer, change);
            made.add(change);
            calls += EACH.length + 1;
        }
    }
}
