/** Promises 34 to 38: equal subtrees and moves. */
public final class MovesTest {
    public static void main(String[] args) {
        areEqual();
        differentSubtrees();
        oneMove();
        firstTargets();
        nestedMoves();
        wholeSubtreesUnpaired();
        oneTargetForOneNode();
        priceOfMove();
        manyMoves();
        wrongNodes();
        Run.end("MovesTest");
    }

    private static void areEqual() {
        new Run("promise 34").after("addRoot(0, 0, 1)", "add(0, 0, 0, 1, 2)", "add(0, 1, 0, 2, 3)", "add(0, 0, 1, 2, 3)",
            "addRoot(1, 0, 1)", "add(1, 0, 0, 2, 3)", "add(1, 0, 0, 1, 2)", "add(1, 2, 0, 2, 3)")
            .due("areEqual(0, 0)", true).due("areEqual(1, 2)", true).due("areEqual(2, 1)", true)
            .due("areEqual(2, 3)", true).due("areEqual(3, 3)", true).due("areEqual(1, 1)", false)
            .due("areEqual(0, 2)", false).after("setLabel(1, 3, 4)").due("areEqual(0, 0)", false)
            .due("areEqual(1, 2)", false).due("areEqual(2, 1)", true).due("areEqual(2, 3)", false)
            .after("setLabel(0, 2, 4)").due("areEqual(0, 0)", true).due("areEqual(0, 4)", Run.INDEX)
            .due("areEqual(4, 0)", Run.INDEX).due("areEqual(-1, 0)", Run.INDEX).due("areEqual(0, -1)", Run.INDEX)
            .due("areEqual(2147483647, 0)", Run.INDEX).due("areEqual(0, -2147483648)", Run.INDEX)
            .after("clear(1)").due("areEqual(0, 0)", Run.INDEX).after("swapTrees()").due("areEqual(0, 0)", Run.INDEX);
        new Run("promise 34, shapes").after("addRoot(0, 0, 0)", "add(0, 0, 0, 0, 0)", "add(0, 1, 0, 0, 0)",
            "addRoot(1, 0, 0)", "add(1, 0, 0, 0, 0)", "add(1, 0, 0, 0, 0)").due("areEqual(0, 0)", false)
            .due("areEqual(2, 2)", true).due("areEqual(1, 2)", false);
        new Run("promise 34, order").after("addRoot(0, 0, 0)", "add(0, 0, 0, 0, 1)", "add(0, 0, 1, 0, 2)",
            "addRoot(1, 0, 0)", "add(1, 0, 0, 0, 2)", "add(1, 0, 1, 0, 1)").due("areEqual(0, 0)", false)
            .due("areEqual(1, 2)", true).due("areEqual(1, 1)", false);
        new Run("promise 34, kinds").after("addRoot(0, 0, 0)", "addRoot(1, 1, 0)").due("areEqual(0, 0)", false);
    }

    private static void differentSubtrees() {
        new Run("promise 35").due("differentSubtrees()", 0).after("addRoot(0, 0, 0)").due("differentSubtrees()", 1)
            .after("addRoot(1, 0, 0)").due("differentSubtrees()", 1).after("setLabel(1, 0, 1)").due("differentSubtrees()", 2)
            .after("add(0, 0, 0, 0, 1)").due("differentSubtrees()", 2).after("add(0, 0, 0, 0, 1)")
            .due("differentSubtrees()", 2).after("add(0, 0, 0, 1, 1)").due("differentSubtrees()", 3)
            .after("add(0, 1, 0, 1, 1)").due("differentSubtrees()", 4).after("clear(0)").due("differentSubtrees()", 1)
            .after("add(1, 0, 0, 0, 1)", "add(1, 0, 1, 0, 1)").due("differentSubtrees()", 2).after("swapTrees()")
            .due("differentSubtrees()", 2);
        Run full = new Run("promise 35, 24 nodes").after("addRoot(0, 0, 0)", "addRoot(1, 1, 0)");
        for (int node = 1; node < 12; node++) {
            full.after("add(0, " + (node - 1) + ", 0, 0, 0)", "add(1, " + (node - 1) + ", 0, 1, 0)");
        }
        full.due("differentSubtrees()", 24);
    }

    /** The old tree is 0(1(2) 3 4), the new one 0(3 4 1(2)): the small subtree goes behind the two leaves. */
    private static Run moved(String about) {
        return new Run(about).after("addRoot(0, 0, 0)", "add(0, 0, 0, 1, 7)", "add(0, 1, 0, 1, 8)", "add(0, 0, 1, 2, 9)",
            "add(0, 0, 2, 2, 9)", "addRoot(1, 0, 0)", "add(1, 0, 0, 2, 9)", "add(1, 0, 1, 2, 9)", "add(1, 0, 2, 1, 7)",
            "add(1, 3, 0, 1, 8)", "setPrices(2, 9, 9, 9)");
    }

    private static void oneMove() {
        moved("promises 36 to 38").due("distance()", 4).due("moves()", 1).due("movesTo(1)", 3).due("movesTo(2)", -1)
            .due("movesTo(0)", -1).due("movesTo(3)", -1).due("distanceWithMoves()", 1).after("setMovePrice(3)")
            .due("moves()", 1).due("distanceWithMoves()", 3).after("setMovePrice(4)").due("moves()", 0)
            .due("movesTo(1)", -1).due("distanceWithMoves()", 4).after("setMovePrice(0)").due("distanceWithMoves()", 0)
            .after("setPrices(1, 3, 2, 1)", "setMovePrice(9)").due("distance()", 10).due("moves()", 1)
            .due("distanceWithMoves()", 9).after("setMovePrice(10)").due("moves()", 0).after("setMovePrice(1)")
            .after("setLabel(1, 4, 5)").due("moves()", 0).due("movesTo(1)", -1).due("distanceWithMoves()", 10);
        moved("promise 37, the whole subtree is unpaired").after("setPrices(1, 0, 0, 0)", "setMovePrice(0)")
            .due("moves()", 0).due("movesTo(1)", -1).due("distanceWithMoves()", 0);
        new Run("promise 38, empty").due("distanceWithMoves()", 0).due("moves()", 0).after("addRoot(0, 0, 0)")
            .due("distanceWithMoves()", 1).due("moves()", 0).due("movesTo(0)", -1).after("swapTrees()")
            .due("distanceWithMoves()", 1).due("moves()", 0);
    }

    /** The old tree is 0(5 5 big), the new one 0(big 5 5 5), each 5 a leaf; numbers run against preorder. */
    private static void firstTargets() {
        new Run("promise 37, first in preorder").after("addRoot(0, 0, 0)", "add(0, 0, 0, 2, 9)", "add(0, 0, 0, 1, 5)",
            "add(0, 0, 0, 1, 5)", "addRoot(1, 0, 0)", "add(1, 0, 0, 1, 5)", "add(1, 0, 0, 1, 5)", "add(1, 0, 0, 1, 5)",
            "add(1, 0, 0, 2, 9)", "setPrices(2, 50, 50, 50)").due("distance()", 5).due("moves()", 2).due("movesTo(3)", 3)
            .due("movesTo(2)", 2).due("movesTo(1)", -1).due("distanceWithMoves()", 3).after("setMovePrice(2)")
            .due("moves()", 0).due("distanceWithMoves()", 5).after("setPrices(1, 2, 1, 1)").due("moves()", 2)
            .due("distanceWithMoves()", 8 - 6 + 4).after("swapTrees()").due("moves()", 2).due("movesTo(3)", 3)
            .due("movesTo(2)", 2).due("movesTo(1)", -1);
    }

    /** A leaf moves into the place of a subtree's leaf, so the subtree that holds it is closed for another. */
    private static void nestedMoves() {
        new Run("promise 37, a target within a subtree").after("addRoot(0, 0, 0)", "add(0, 0, 0, 1, 5)", "add(0, 0, 1, 1, 6)",
            "add(0, 2, 0, 1, 5)", "add(0, 0, 2, 2, 9)", "addRoot(1, 0, 0)", "add(1, 0, 0, 2, 9)", "add(1, 0, 1, 1, 6)",
            "add(1, 2, 0, 1, 5)", "setPrices(2, 50, 50, 50)").due("distance()", 5).due("movesTo(1)", 3)
            .due("movesTo(2)", -1).due("movesTo(3)", -1).due("moves()", 1).due("distanceWithMoves()", 4);
        new Run("promise 37, within what moved").after("addRoot(0, 0, 0)", "add(0, 0, 0, 1, 6)", "add(0, 1, 0, 1, 5)",
            "add(0, 0, 1, 2, 9)", "addRoot(1, 0, 0)", "add(1, 0, 0, 2, 9)", "add(1, 0, 1, 1, 6)", "add(1, 2, 0, 1, 5)",
            "add(1, 0, 2, 1, 5)", "setPrices(2, 50, 50, 50)").due("movesTo(1)", 2).due("movesTo(2)", -1).due("moves()", 1)
            .due("distance()", 5).due("distanceWithMoves()", 2);
        new Run("promise 37, the larger one is too dear").after("addRoot(0, 0, 0)", "add(0, 0, 0, 1, 6)",
            "add(0, 1, 0, 3, 5)", "add(0, 0, 1, 2, 9)", "addRoot(1, 0, 0)", "add(1, 0, 0, 2, 9)", "add(1, 0, 1, 3, 5)",
            "setPrices(2, 50, 50, 50)").due("movesTo(1)", -1).due("movesTo(2)", 2).due("moves()", 1)
            .due("distance()", 3).due("distanceWithMoves()", 2);
    }

    private static Run dear(String about, String old, String current, String... more) {
        return new Run(about).after(Grow.both(old, current, "setPrices(3, 50, 50, 50)")).after(more);
    }

    /** "A node a whose subtree is unpaired moves to .. b: its subtree is unpaired": a paired child stands against it. */
    private static void wholeSubtreesUnpaired() {
        dear("a paired child of a", "0.0(3.9 1.1(2.2))", "0.0(1.1(2.2) 3.9 2.2)").due("distance()", 3).due("partnerOf(2)", -1)
            .due("partnerOf(3)", 4).due("areEqual(2, 1)", true).due("moves()", 0).due("movesTo(2)", -1).due("movesTo(3)", -1)
            .due("distanceWithMoves()", 3);
        dear("a paired child of b", "0.0(1.1(2.2) 3.9 2.2)", "0.0(3.9 1.1(2.2))").due("distance()", 3).due("partnerOf(1)", -1)
            .due("partnerOf(4)", 3).due("areEqual(1, 2)", true).due("moves()", 0).due("movesTo(1)", -1).due("movesTo(2)", -1)
            .due("distanceWithMoves()", 3);
        dear("nothing is paired below", "0.0(1.1(2.2) 3.9)", "0.0(3.9 1.1(2.2))").due("distance()", 4).due("moves()", 1)
            .due("movesTo(1)", 2).due("movesTo(2)", -1).due("distanceWithMoves()", 1);
        dear("not equal", "0.0(1.1(2.2) 3.9)", "0.0(3.9 1.1(2.2 2.2))").due("distance()", 5).due("movesTo(1)", -1)
            .due("movesTo(2)", 3).due("moves()", 1).due("distanceWithMoves()", 4);
        dear("equal but for a label", "0.0(1.1(2.2) 3.9)", "0.0(3.9 1.1(2.3))").due("distance()", 4).due("moves()", 0)
            .due("distanceWithMoves()", 4).due("setLabel(1, 3, 2)", 3).due("moves()", 1).due("distanceWithMoves()", 1);
    }

    /** "No node of its subtree is in the subtree of a node to which another one moves." */
    private static void oneTargetForOneNode() {
        dear("two for one", "0.0(2.2 2.2 3.9)", "0.0(3.9 2.2)").due("distance()", 3).due("movesTo(1)", 2).due("movesTo(2)", -1)
            .due("moves()", 1).due("distanceWithMoves()", 2);
        dear("a node in the subtree of a target", "0.0(1.1(2.2) 2.2 3.9)", "0.0(3.9 1.1(2.2))").due("distance()", 5)
            .due("movesTo(1)", 2).due("movesTo(2)", -1).due("movesTo(3)", -1).due("moves()", 1).due("distanceWithMoves()", 2);
        dear("a node beside the target", "0.0(1.1(2.2) 2.2 3.9)", "0.0(3.9 1.1(2.2) 2.2)").due("distance()", 6)
            .due("movesTo(1)", 2).due("movesTo(2)", -1).due("movesTo(3)", 4).due("moves()", 2).due("distanceWithMoves()", 2);
        dear("a target in its subtree", "0.0(2.2 1.1(2.2) 3.9)", "0.0(3.9 1.1(2.2))").due("distance()", 5)
            .due("movesTo(1)", 3).due("movesTo(2)", -1).due("movesTo(3)", -1).due("moves()", 1).due("distanceWithMoves()", 4);
        dear("a second one for the second", "0.0(2.2 1.1(2.2) 3.9)", "0.0(3.9 1.1(2.2) 1.1(2.2))").due("distance()", 7)
            .due("movesTo(1)", 3).due("movesTo(2)", 4).due("movesTo(3)", -1).due("moves()", 2).due("distanceWithMoves()", 3);
    }

    /** "The price of a move is less than the deleting prices .. and the inserting prices .. together": not as much. */
    private static void priceOfMove() {
        for (int price = 0; price <= 50; price++) {
            boolean moves = price < 7 + 5 + 11 + 2;
            dear("a move for " + price, "0.0(1.1(2.2) 3.9)", "0.0(3.9 1.1(2.2))", "setPrices(1, 5, 7, 0)", "setPrices(2, 2, 11, 0)",
                "setMovePrice(" + price + ")").due("distance()", 25).due("moves()", moves ? 1 : 0)
                .due("movesTo(1)", moves ? 2 : -1).due("distanceWithMoves()", moves ? price : 25);
        }
        String[] free = {"setPrices(1, 0, 0, 0)", "setMovePrice(0)"};
        dear("nothing is saved", "0.0(1.1 3.9)", "0.0(3.9 1.1)", free).due("distance()", 0).due("partnerOf(1)", -1)
            .due("moves()", 0).due("movesTo(1)", -1).due("distanceWithMoves()", 0).after("setPrices(1, 0, 1, 0)")
            .due("moves()", 1).due("distance()", 1).due("distanceWithMoves()", 0).after("setPrices(1, 1, 0, 0)")
            .due("moves()", 1).due("distance()", 1).due("distanceWithMoves()", 0).after("setMovePrice(1)").due("moves()", 0)
            .due("distanceWithMoves()", 1);
        dear("the dearest move", "0.0(1.1 3.9)", "0.0(3.9 1.1)", "setPrices(1, 25, 25, 0)", "setMovePrice(50)")
            .due("distance()", 50).due("moves()", 0).due("distanceWithMoves()", 50).after("setPrices(1, 25, 26, 0)")
            .due("moves()", 1).due("distance()", 51).due("distanceWithMoves()", 50);
    }

    /** The children of a star turn round: one stays, ten move. */
    private static void manyMoves() {
        Run run = new Run("promise 36, ten moves").after("addRoot(0, 0, 0)", "addRoot(1, 0, 0)", "setPrices(1, 3, 3, 50)");
        for (int node = 1; node < 12; node++) {
            run.after("add(0, 0, " + (node - 1) + ", 1, " + node + ")", "add(1, 0, 0, 1, " + node + ")");
        }
        run.due("distance()", 60).due("pairs()", 2).due("partnerOf(1)", 1).due("moves()", 10).due("movesTo(0)", -1)
            .due("movesTo(1)", -1).due("distanceWithMoves()", 10);
        for (int node = 2; node < 12; node++) {
            run.due("movesTo(" + node + ")", node);
        }
        run.due("setMovePrice(5)", 1).due("moves()", 10).due("distanceWithMoves()", 50).due("setMovePrice(6)", 5)
            .due("moves()", 0).due("distanceWithMoves()", 60);
    }

    private static void wrongNodes() {
        Run run = moved("promise 37, wrong nodes");
        for (String wrong : new String[] {"5", "-1", "12", "2147483647", "-2147483648"}) {
            run.due("movesTo(" + wrong + ")", Run.INDEX);
        }
        run.after("clear(0)").due("movesTo(0)", Run.INDEX).due("moves()", 0).due("distanceWithMoves()", 21);
        new Run("promise 37, empty").due("movesTo(0)", Run.INDEX).after("addRoot(1, 0, 0)").due("movesTo(0)", Run.INDEX);
    }
}
