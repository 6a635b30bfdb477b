/** Promises 1 to 8: a new object, trees and prices. */
public final class BuildingTest {
    private static final String[] WRONG = {"-1", "2147483647", "-2147483648"};

    public static void main(String[] args) {
        newObject();
        addRoot();
        add();
        placesOfChildren();
        addToFullTree();
        setLabel();
        clear();
        swapTrees();
        setPrices();
        setMovePrice();
        Run.end("BuildingTest");
    }

    private static void newObject() {
        new Run("promise 1, empty").due("nodes(0)", 0).due("nodes(1)", 0).due("distance()", 0)
            .due("distanceByForests()", 0).due("topDownDistance()", 0).due("similarity()", 1.0).due("pairs()", 0)
            .due("steps()", 0).due("sizeAfter(0)", 0).due("differentSubtrees()", 0).due("moves()", 0)
            .due("distanceWithMoves()", 0).due("setMovePrice(1)", 1);
        for (int kind = 0; kind < 4; kind++) {
            new Run("promise 1, prices of kind " + kind)
                .due("addRoot(0, " + kind + ", 1)", Run.NOTHING).due("stepPrice(0)", 1)
                .due("addRoot(1, " + kind + ", 2)", Run.NOTHING).due("stepKind(0)", TreeComparer.RELABEL)
                .due("stepPrice(0)", 1).due("clear(0)", Run.NOTHING).due("stepKind(0)", TreeComparer.INSERT)
                .due("stepPrice(0)", 1);
        }
    }

    private static void addRoot() {
        for (int tree = 0; tree < 2; tree++) {
            new Run("promise 2").due("addRoot(" + tree + ", 3, 99)", Run.NOTHING).due("nodes(" + tree + ")", 1)
                .due("nodes(" + (1 - tree) + ")", 0).due("kindOf(" + tree + ", 0)", 3).due("labelOf(" + tree + ", 0)", 99)
                .due("parentOf(" + tree + ", 0)", -1).due("children(" + tree + ", 0)", 0)
                .due("addRoot(" + tree + ", 0, 0)", Run.STATE).due("addRoot(" + tree + ", 4, 0)", Run.INDEX)
                .due("addRoot(" + tree + ", -1, 100)", Run.INDEX).due("addRoot(" + tree + ", 0, 100)", Run.ARGUMENT)
                .due("clear(" + tree + ")", Run.NOTHING).due("addRoot(" + tree + ", 0, 0)", Run.NOTHING)
                .due("kindOf(" + tree + ", 0)", 0).due("labelOf(" + tree + ", 0)", 0);
        }
        Run wrong = new Run("promise 2, wrong").due("addRoot(2, 4, 100)", Run.INDEX).due("addRoot(0, 4, 100)", Run.INDEX)
            .due("addRoot(2, 0, 100)", Run.INDEX).due("addRoot(0, 3, 100)", Run.ARGUMENT);
        for (String value : WRONG) {
            wrong.due("addRoot(" + value + ", 0, 0)", Run.INDEX).due("addRoot(0, " + value + ", 0)", Run.INDEX)
                .due("addRoot(0, 0, " + value + ")", Run.ARGUMENT);
        }
        wrong.due("nodes(0)", 0).due("addRoot(0, 0, 0)", Run.NOTHING).due("addRoot(2, 0, 0)", Run.INDEX);
    }

    private static void add() {
        new Run("promise 3").after("addRoot(0, 0, 0)").due("add(0, 0, 0, 1, 10)", 1).due("add(0, 0, 0, 2, 20)", 2)
            .due("add(0, 0, 2, 3, 99)", 3).due("add(0, 0, 1, 0, 0)", 4).due("add(0, 2, 0, 0, 5)", 5)
            .due("add(0, 2, 1, 0, 6)", 6).due("add(0, 2, 1, 0, 7)", 7).due("add(0, 5, 0, 0, 8)", 8)
            .due("children(0, 0)", 4).due("childAt(0, 0, 0)", 2).due("childAt(0, 0, 1)", 4).due("childAt(0, 0, 2)", 1)
            .due("childAt(0, 0, 3)", 3).due("childAt(0, 2, 0)", 5).due("childAt(0, 2, 1)", 7).due("childAt(0, 2, 2)", 6)
            .due("parentOf(0, 8)", 5).due("parentOf(0, 4)", 0).due("kindOf(0, 3)", 3).due("labelOf(0, 3)", 99)
            .due("labelOf(0, 1)", 10).due("nodes(0)", 9).due("nodes(1)", 0);
        new Run("promise 3, tree 1").after("addRoot(1, 0, 0)").due("add(1, 0, 0, 3, 99)", 1).due("nodes(1)", 2)
            .due("nodes(0)", 0).due("add(0, 0, 0, 0, 0)", Run.INDEX).due("steps()", 2).due("add(1, 0, 0, 0, 0)", 2)
            .due("steps()", 3);
        Run wrong = new Run("promise 3, wrong").due("add(0, 0, 0, 0, 0)", Run.INDEX).after("addRoot(0, 0, 0)",
            "add(0, 0, 0, 0, 1)").due("add(0, 2, 0, 0, 0)", Run.INDEX).due("add(0, 0, 2, 0, 0)", Run.INDEX)
            .due("add(0, 1, 1, 0, 0)", Run.INDEX).due("add(0, 0, 0, 4, 0)", Run.INDEX).due("add(2, 0, 0, 0, 0)", Run.INDEX)
            .due("add(0, 0, 0, 0, 100)", Run.ARGUMENT).due("add(0, 2, 0, 0, 100)", Run.INDEX)
            .due("add(0, 0, 2, 0, 100)", Run.INDEX).due("add(0, 0, 0, 4, 100)", Run.INDEX)
            .due("add(2, 0, 0, 0, 100)", Run.INDEX);
        for (String value : WRONG) {
            wrong.due("add(" + value + ", 0, 0, 0, 0)", Run.INDEX).due("add(0, " + value + ", 0, 0, 0)", Run.INDEX)
                .due("add(0, 0, " + value + ", 0, 0)", Run.INDEX).due("add(0, 0, 0, " + value + ", 0)", Run.INDEX)
                .due("add(0, 0, 0, 0, " + value + ")", Run.ARGUMENT);
        }
        wrong.due("add(0, 0, 0, 0, 0)", 2);
    }

    /** "Children from its place on come one place later then", with their subtrees; those before stay. */
    private static void placesOfChildren() {
        for (int children = 0; children <= 10; children++) {
            for (int place = 0; place <= children; place++) {
                Run run = new Run("promise 3, place " + place + " of " + children).after(Grow.tree(1, Grow.star("0.0", children, "1.1")
                    .replace("()", ""))).due("add(1, 0, " + place + ", 2, 2)", children + 1);
                for (int now = 0; now <= children; now++) {
                    int due = now < place ? now + 1 : now == place ? children + 1 : now;
                    run.due("childAt(1, 0, " + now + ")", due).due("inPreorder(1, " + (now + 1) + ")", due);
                }
                run.due("children(1, 0)", children + 1).due("childAt(1, 0, " + (children + 1) + ")", Run.INDEX)
                    .due("nodes(0)", 0);
            }
        }
        new Run("promise 3, between subtrees").after(Grow.tree(0, "0.0(1.1(1.2 1.3(1.4)) 2.1(2.2))"))
            .due("add(0, 0, 1, 3, 3)", 7).due("inPreorder(0, 4)", 4).due("inPreorder(0, 5)", 7).due("inPreorder(0, 6)", 5)
            .due("add(0, 0, 3, 3, 4)", 8).due("inPreorder(0, 8)", 8).due("inPreorder(0, 7)", 6).due("add(0, 1, 2, 3, 5)", 9)
            .due("inPreorder(0, 4)", 4).due("inPreorder(0, 5)", 9).due("inPreorder(0, 6)", 7).due("add(0, 0, 0, 3, 6)", 10)
            .due("inPreorder(0, 1)", 10).due("inPreorder(0, 2)", 1).due("add(0, 4, 0, 3, 7)", 11)
            .due("inPreorder(0, 6)", 11).due("parentOf(0, 11)", 4).due("parentOf(0, 10)", 0);
    }

    private static void addToFullTree() {
        for (int tree = 0; tree < 2; tree++) {
            Run run = new Run("promise 3, 12 nodes").after("addRoot(" + tree + ", 0, 0)");
            for (int node = 1; node < 12; node++) {
                run.due("add(" + tree + ", 0, 0, 0, " + node + ")", node);
            }
            run.due("nodes(" + tree + ")", 12).due("children(" + tree + ", 0)", 11).due("childAt(" + tree + ", 0, 0)", 11)
                .due("add(" + tree + ", 0, 11, 0, 0)", Run.STATE).due("add(" + tree + ", 11, 0, 3, 99)", Run.STATE)
                .due("add(" + tree + ", 0, 12, 0, 0)", Run.INDEX).due("add(" + tree + ", 12, 0, 0, 0)", Run.INDEX)
                .due("add(" + tree + ", 0, 0, 4, 0)", Run.INDEX).due("add(" + tree + ", 0, 0, 0, 100)", Run.ARGUMENT)
                .due("addRoot(" + tree + ", 0, 0)", Run.STATE).due("clear(" + tree + ")", Run.NOTHING)
                .due("addRoot(" + tree + ", 0, 0)", Run.NOTHING).due("add(" + tree + ", 0, 0, 0, 0)", 1);
        }
        Run chain = new Run("promise 3, a chain").after("addRoot(0, 0, 0)");
        for (int node = 1; node < 12; node++) {
            chain.due("add(0, " + (node - 1) + ", 0, 0, 0)", node);
        }
        chain.due("inPreorder(0, 11)", 11).due("inPostorder(0, 0)", 11).due("subtreeSize(0, 0)", 12)
            .due("distance()", 12).due("add(0, 11, 0, 0, 0)", Run.STATE);
    }

    private static void setLabel() {
        Run run = new Run("promise 4").due("setLabel(0, 0, 0)", Run.INDEX).after("addRoot(0, 0, 7)", "add(0, 0, 0, 1, 8)",
            "addRoot(1, 0, 7)").due("distance()", 1).due("setLabel(0, 0, 99)", 7).due("labelOf(0, 0)", 99)
            .due("labelOf(0, 1)", 8).due("labelOf(1, 0)", 7).due("distance()", 2).due("steps()", 2)
            .due("setLabel(1, 0, 99)", 7).due("steps()", 1).due("setLabel(0, 0, 0)", 99).due("setLabel(0, 0, 0)", 0)
            .due("kindOf(0, 1)", 1).due("setLabel(0, 1, 100)", Run.ARGUMENT).due("setLabel(0, 2, 0)", Run.INDEX)
            .due("setLabel(0, 2, 100)", Run.INDEX).due("setLabel(2, 0, 100)", Run.INDEX).due("setLabel(2, 0, 0)", Run.INDEX)
            .due("setLabel(1, 1, 0)", Run.INDEX);
        for (String value : WRONG) {
            run.due("setLabel(" + value + ", 0, 0)", Run.INDEX).due("setLabel(0, " + value + ", 0)", Run.INDEX)
                .due("setLabel(0, 0, " + value + ")", Run.ARGUMENT);
        }
        run.due("setLabel(0, 1, 9)", 8);
    }

    private static void clear() {
        Run run = new Run("promise 5").after("addRoot(0, 0, 7)", "add(0, 0, 0, 1, 8)", "addRoot(1, 0, 7)")
            .due("pairs()", 1).due("clear(0)", Run.NOTHING).due("nodes(0)", 0).due("nodes(1)", 1).due("pairs()", 0)
            .due("distance()", 1).due("steps()", 1).due("partnerOf(0)", Run.INDEX).due("labelOf(0, 0)", Run.INDEX)
            .due("clear(0)", Run.NOTHING).due("clear(2)", Run.INDEX);
        for (String value : WRONG) {
            run.due("clear(" + value + ")", Run.INDEX);
        }
        run.due("addRoot(0, 2, 5)", Run.NOTHING).due("add(0, 0, 0, 1, 6)", 1).due("subtreeSize(0, 0)", 2)
            .due("clear(1)", Run.NOTHING).due("nodes(1)", 0).due("nodes(0)", 2).due("steps()", 2);
        new Run("promise 5, prices stay").after("setPrices(0, 2, 3, 4)", "setMovePrice(9)", "addRoot(0, 0, 0)")
            .due("clear(0)", Run.NOTHING).after("addRoot(0, 0, 0)").due("stepPrice(0)", 3).due("setMovePrice(0)", 9);
    }

    private static void swapTrees() {
        new Run("promise 6").after("addRoot(0, 0, 7)", "add(0, 0, 0, 1, 8)", "addRoot(1, 2, 9)", "setPrices(0, 5, 6, 7)",
            "setMovePrice(3)").due("distance()", 8).due("swapTrees()", Run.NOTHING).due("nodes(0)", 1).due("nodes(1)", 2)
            .due("kindOf(0, 0)", 2).due("labelOf(0, 0)", 9).due("labelOf(1, 1)", 8).due("parentOf(1, 1)", 0)
            .due("distance()", 7).due("steps()", 3).due("stepPrice(1)", 5).due("setMovePrice(3)", 3)
            .due("add(0, 0, 0, 0, 1)", 1).due("nodes(0)", 2).due("swapTrees()", Run.NOTHING).due("labelOf(0, 1)", 8)
            .due("labelOf(1, 1)", 1);
        new Run("promise 6, empty").due("swapTrees()", Run.NOTHING).due("nodes(0)", 0).after("addRoot(0, 0, 0)")
            .due("swapTrees()", Run.NOTHING).due("nodes(0)", 0).due("nodes(1)", 1).due("stepKind(0)", TreeComparer.INSERT);
    }

    private static void setPrices() {
        for (int kind = 0; kind < 4; kind++) {
            new Run("promise 7, kind " + kind).due("setPrices(" + kind + ", 0, 50, 7)", Run.NOTHING)
                .after("addRoot(0, " + kind + ", 1)").due("stepPrice(0)", 50).due("distance()", 50)
                .due("swapTrees()", Run.NOTHING).due("stepPrice(0)", 0).due("distance()", 0)
                .after("addRoot(0, " + kind + ", 2)").due("stepPrice(0)", 7).due("distance()", 7)
                .due("setPrices(" + kind + ", 50, 0, 50)", Run.NOTHING).due("distance()", 50)
                .due("setPrices(" + kind + ", 50, 50, 0)", Run.NOTHING).due("distance()", 0).due("stepPrice(0)", 0)
                .due("setPrices(" + (3 - kind) + ", 9, 9, 9)", Run.NOTHING).due("distance()", 0);
        }
        Run wrong = new Run("promise 7, wrong").after("addRoot(0, 0, 1)", "addRoot(1, 0, 2)")
            .due("setPrices(4, 0, 0, 0)", Run.INDEX).due("setPrices(4, 51, 0, 0)", Run.INDEX)
            .due("setPrices(-1, -1, -1, -1)", Run.INDEX).due("setPrices(0, 51, 0, 0)", Run.ARGUMENT)
            .due("setPrices(0, 0, 51, 0)", Run.ARGUMENT).due("setPrices(0, 0, 0, 51)", Run.ARGUMENT);
        for (String value : WRONG) {
            wrong.due("setPrices(" + value + ", 0, 0, 0)", Run.INDEX).due("setPrices(0, " + value + ", 0, 0)", Run.ARGUMENT)
                .due("setPrices(0, 0, " + value + ", 0)", Run.ARGUMENT).due("setPrices(0, 0, 0, " + value + ")", Run.ARGUMENT);
        }
        wrong.due("stepPrice(0)", 1).after("clear(0)").due("stepPrice(0)", 1).after("swapTrees()").due("stepPrice(0)", 1);
    }

    private static void setMovePrice() {
        new Run("promise 8").due("setMovePrice(50)", 1).due("setMovePrice(0)", 50).due("setMovePrice(51)", Run.ARGUMENT)
            .due("setMovePrice(-1)", Run.ARGUMENT).due("setMovePrice(2147483647)", Run.ARGUMENT)
            .due("setMovePrice(-2147483648)", Run.ARGUMENT).due("setMovePrice(7)", 0).due("setMovePrice(7)", 7);
        new Run("promise 8, moves").after("addRoot(0, 0, 1)", "add(0, 0, 0, 1, 5)", "add(0, 0, 1, 0, 6)",
            "addRoot(1, 0, 1)", "add(1, 0, 0, 0, 6)", "add(1, 0, 1, 1, 5)", "setPrices(0, 3, 3, 3)")
            .due("partnerOf(1)", -1).due("moves()", 1).due("distanceWithMoves()", 1).due("setMovePrice(2)", 1)
            .due("moves()", 0).due("distanceWithMoves()", 2).due("setMovePrice(0)", 2).due("moves()", 1)
            .due("distanceWithMoves()", 0);
    }
}
