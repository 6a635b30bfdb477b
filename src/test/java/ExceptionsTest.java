import java.util.ArrayList;
import java.util.List;

/**
 * The section "Exceptions": if several apply, the one that the throws clause names first is thrown, and a refused
 * call changes nothing.
 */
public final class ExceptionsTest {
    private static final int[] BELOW_AND_ABOVE = {-1, 1};

    public static void main(String[] args) {
        addRootNamesFirst();
        addNamesFirst();
        setLabelNamesFirst();
        setPricesNamesFirst();
        questionsWithTwoFaults();
        refusedCallsBetween();
        refusedPricesOfUnusedKinds();
        refusedQuestionsBetween();
        Run.end("ExceptionsTest");
    }

    private static boolean has(int faults, int bit) {
        return (faults >> bit & 1) == 1;
    }

    /** A value that is right, or just outside on one side. */
    private static int value(boolean wrong, int right, int side, int greatest) {
        return !wrong ? right : side < 0 ? -1 : greatest + 1;
    }

    /** The exception that is due, from the faults in the order of the throws clause. */
    private static String due(boolean index, boolean argument, boolean state, String answer) {
        return index ? Run.INDEX : argument ? Run.ARGUMENT : state ? Run.STATE : answer;
    }

    private static void addRootNamesFirst() {
        for (int faults = 0; faults < 16; faults++) {
            for (int side : BELOW_AND_ABOVE) {
                Run run = new Run("promise 2, several faults");
                if (has(faults, 3)) {
                    run.after("addRoot(0, 1, 1)", "addRoot(1, 2, 2)");
                }
                run.due("addRoot(" + value(has(faults, 0), 0, side, 1) + ", " + value(has(faults, 1), 3, side, 3) + ", "
                    + value(has(faults, 2), 99, side, 99) + ")",
                    due(has(faults, 0) || has(faults, 1), has(faults, 2), has(faults, 3), Run.NOTHING));
            }
        }
    }

    private static void addNamesFirst() {
        for (int faults = 0; faults < 64; faults++) {
            for (int side : BELOW_AND_ABOVE) {
                int nodes = has(faults, 5) ? 12 : 4;
                Run run = new Run("promise 3, several faults").after(Grow.tree(0, Grow.star("1.1", nodes - 1, "2.2")))
                    .after(Grow.tree(1, Grow.star("1.1", nodes - 1, "2.2")));
                int place = value(has(faults, 2), nodes - 1, side, nodes - 1);
                run.due("add(" + value(has(faults, 0), 1, side, 1) + ", " + value(has(faults, 1), 0, side, nodes - 1) + ", "
                    + place + ", " + value(has(faults, 3), 0, side, 3) + ", " + value(has(faults, 4), 0, side, 99) + ")",
                    due((faults & 15) != 0, has(faults, 4), has(faults, 5), "4"));
            }
        }
        new Run("promise 3, an empty tree has no parent").due("add(0, 0, 0, 0, 100)", Run.INDEX)
            .due("add(1, 0, 0, 0, -1)", Run.INDEX).due("add(0, -1, 0, 0, 0)", Run.INDEX).due("nodes(0)", 0);
    }

    private static void setLabelNamesFirst() {
        for (int faults = 0; faults < 8; faults++) {
            for (int side : BELOW_AND_ABOVE) {
                new Run("promise 4, several faults").after(Grow.both("0.7(1.8)", "0.7(1.8 2.9)"))
                    .due("setLabel(" + value(has(faults, 0), 1, side, 1) + ", " + value(has(faults, 1), 2, side, 2) + ", "
                        + value(has(faults, 2), 0, side, 99) + ")",
                        due(has(faults, 0) || has(faults, 1), has(faults, 2), false, "9"));
            }
        }
    }

    private static void setPricesNamesFirst() {
        for (int faults = 0; faults < 16; faults++) {
            for (int side : BELOW_AND_ABOVE) {
                new Run("promise 7, several faults").after(Grow.both("3.7(3.8)", "3.8"))
                    .due("setPrices(" + value(has(faults, 0), 3, side, 3) + ", " + value(has(faults, 1), 0, side, 50) + ", "
                        + value(has(faults, 2), 50, side, 50) + ", " + value(has(faults, 3), 0, side, 50) + ")",
                        due(has(faults, 0), (faults & 14) != 0, false, Run.NOTHING));
            }
        }
    }

    private static void questionsWithTwoFaults() {
        Run run = new Run("questions with two faults").after(Grow.both("0.7(1.8)", "0.7"));
        for (String call : new String[] {"parentOf(2, 2)", "kindOf(-1, -1)", "labelOf(2, -1)", "children(-1, 5)",
            "childAt(0, 2, 1)", "childAt(2, 0, 1)", "childAt(-1, -1, -1)", "inPreorder(2, 2)", "inPostorder(-1, -1)",
            "subtreeSize(2, 2)", "isKeyroot(-1, -1)", "subtreeDistance(2, 1)", "canBePaired(-1, -1)", "areEqual(2, 1)",
            "labelAfter(2, 1)", "labelAfter(-1, -1)", "depthAfter(2, 1)", "depthAfter(-1, -1)"}) {
            run.due(call, Run.INDEX);
        }
    }

    /** The same trees, once grown without a fault, once with refused calls before and after each right one. */
    private static void refusedCallsBetween() {
        String[] right = Grow.both("0.1(1.2(3.1(2.7)) 2.3 1.2(0.4 0.4))", "0.1(2.5 1.2(3.1 2.7) 1.6(0.4 0.4 0.4))",
            "setPrices(1, 4, 6, 5)", "setPrices(2, 9, 7, 3)", "setMovePrice(2)", "setLabel(0, 3, 9)", "swapTrees()");
        String[] refused = {"addRoot(0, 4, 0)", "addRoot(1, 0, 100)", "addRoot(2, 0, 0)", "add(0, 12, 0, 1, 1)",
            "add(1, 0, 12, 1, 1)", "add(1, 0, -1, 1, 1)", "add(0, 0, 0, 4, 1)", "setLabel(0, 12, 1)", "setLabel(1, 0, 100)",
            "clear(2)", "setPrices(0, 8, 8, 51)", "setPrices(4, 8, 8, 8)", "setMovePrice(51)", "labelAfter(0, 12)"};
        List<String> mixed = new ArrayList<>();
        List<String> plain = new ArrayList<>();
        for (int i = 0; i < right.length; i++) {
            mixed.add(refused[i % refused.length]);
            mixed.add(right[i]);
            plain.add(right[i]);
            mixed.add(refused[(i * 5 + 3) % refused.length]);
            Run.compare("refused calls between", "all answers after " + (i + 1) + " changes", Snapshot.after(mixed),
                Snapshot.after(plain));
        }
    }

    private static void refusedPricesOfUnusedKinds() {
        Run run = new Run("promise 7, a refused call changes no price").after("setPrices(0, 2, 3, 4)",
            "setPrices(1, 5, 6, 7)", "setPrices(2, 8, 9, 10)", "setPrices(3, 11, 12, 13)", "setMovePrice(14)");
        for (int kind = -1; kind <= 4; kind++) {
            String due = kind < 0 || kind > 3 ? Run.INDEX : Run.ARGUMENT;
            for (String prices : new String[] {"51, 20, 20", "20, 51, 20", "20, 20, 51", "-1, 20, 20", "20, -1, 20", "20, 20, -1"}) {
                run.due("setPrices(" + kind + ", " + prices + ")", due);
            }
        }
        run.due("setMovePrice(51)", Run.ARGUMENT).due("setMovePrice(-1)", Run.ARGUMENT).due("setMovePrice(0)", 14);
    }

    private static void refusedQuestionsBetween() {
        String[] before = Grow.both("0.1(1.2(3.1) 2.3)", "0.1(2.3(3.1) 1.2)");
        for (String refused : new String[] {"partnerOf(4)", "canBePaired(0, 4)", "canBePaired(4, 0)", "subtreeDistance(4, 4)",
            "stepKind(9)", "stepNode(-1)", "stepPrice(9)", "sizeAfter(-1)", "labelAfter(0, 4)", "labelAfter(9, 0)",
            "depthAfter(0, -1)", "areEqual(4, 0)", "movesTo(-1)", "childAt(0, 3, 0)", "inPreorder(0, 4)"}) {
            Run run = new Run("after " + refused).after(before).due(refused, Run.INDEX);
            run.due("distance()", 4).due("pairs()", 2).due("partnerOf(1)", 3).due("partnerOf(2)", -1).due("steps()", 4)
                .due("labelAfter(0, 3)", 3).due("depthAfter(0, 2)", 2).due("canBePaired(3, 3)", false)
                .due("distanceByForests()", 4).due("canBePaired(0, 0)", true).due("moves()", 1).due("movesTo(3)", -1);
        }
    }
}
