/** The section "Terms": each sentence that draws a line has trees on both sides of it. */
public final class TermsTest {
    public static void main(String[] args) {
        twoTrees();
        numbers();
        orders();
        pricesAtFirst();
        sameKind();
        noNodeInTwoPairs();
        ancestorsStayAncestors();
        orderStays();
        costs();
        leastCost();
        takenInPreorder();
        firstNodeInPreorder();
        pairsChosenBefore();
        topDown();
        callsOfOneObject();
        Run.end("TermsTest");
    }

    /** "There are two trees, 0 (the old one) and 1 (the new one), with at most 12 nodes each; both are empty at first." */
    private static void twoTrees() {
        new Run("two trees, empty at first").due("nodes(0)", 0).due("nodes(1)", 0).due("nodes(2)", Run.INDEX)
            .due("inPreorder(0, 0)", Run.INDEX).due("inPostorder(1, 0)", Run.INDEX).due("labelOf(0, 0)", Run.INDEX);
        new Run("12 nodes each").after(Grow.both(Grow.star("0.0", 10, "0.0"), Grow.chain(11, "0.0")))
            .due("add(1, 10, 0, 0, 0)", 11).due("add(0, 10, 0, 0, 0)", 11).due("add(1, 11, 0, 0, 0)", Run.STATE)
            .due("add(0, 11, 0, 0, 0)", Run.STATE).due("nodes(0)", 12).due("nodes(1)", 12);
        for (int full = 0; full < 2; full++) {
            int other = 1 - full;
            new Run("one tree is full, the other is not").after(Grow.tree(full, Grow.star("0.0", 11, "0.0")))
                .due("add(" + other + ", 0, 0, 0, 0)", Run.INDEX).due("addRoot(" + other + ", 0, 0)", Run.NOTHING)
                .due("add(" + other + ", 0, 0, 0, 0)", 1).due("add(" + full + ", 0, 0, 0, 0)", Run.STATE)
                .due("swapTrees()", Run.NOTHING).due("add(" + other + ", 0, 0, 0, 0)", Run.STATE)
                .due("add(" + full + ", 0, 0, 0, 0)", 2);
        }
    }

    /** "The nodes of a tree are numbered from 0 in the order in which they were added." */
    private static void numbers() {
        new Run("numbers").due("addRoot(0, 0, 50)", Run.NOTHING).due("labelOf(0, 0)", 50).due("add(0, 0, 0, 0, 51)", 1)
            .due("add(0, 0, 0, 0, 52)", 2).due("add(0, 0, 1, 0, 53)", 3).due("add(0, 2, 0, 0, 54)", 4)
            .due("labelOf(0, 0)", 50).due("labelOf(0, 1)", 51).due("labelOf(0, 2)", 52).due("labelOf(0, 3)", 53)
            .due("labelOf(0, 4)", 54).due("clear(0)", Run.NOTHING).due("addRoot(0, 0, 60)", Run.NOTHING)
            .due("add(0, 0, 0, 0, 61)", 1).due("labelOf(0, 0)", 60).due("labelOf(0, 1)", 61).due("labelOf(0, 2)", Run.INDEX);
    }

    /** "In preorder a node comes before its descendants, in postorder after them; .. children come in their order." */
    private static void orders() {
        orders("preorder of chains", "Preorder", Grow.chain(5, "0.0"), 0, 1, 2, 3, 4);
        orders("postorder of chains", "Postorder", Grow.chain(5, "0.0"), 4, 3, 2, 1, 0);
        orders("preorder of stars", "Preorder", Grow.star("0.0", 4, "0.0"), 0, 4, 3, 2, 1);
        orders("postorder of stars", "Postorder", Grow.star("0.0", 4, "0.0"), 4, 3, 2, 1, 0);
        orders("preorder", "Preorder", "0.0(0.0(0.0 0.0(0.0)) 0.0(0.0))", 0, 3, 6, 4, 5, 1, 2);
        orders("postorder", "Postorder", "0.0(0.0(0.0 0.0(0.0)) 0.0(0.0))", 6, 5, 4, 3, 2, 1, 0);
        orders("preorder of one node", "Preorder", "0.0", 0);
        orders("postorder of one node", "Postorder", "0.0", 0);
    }

    private static void orders(String about, String order, String text, int... nodes) {
        for (int tree = 0; tree < 2; tree++) {
            Run run = new Run(about).after(Grow.backwards(tree, text));
            for (int place = 0; place < nodes.length; place++) {
                run.due("in" + order + "(" + tree + ", " + place + ")", nodes[place]);
            }
            run.due("in" + order + "(" + tree + ", " + nodes.length + ")", Run.INDEX);
        }
    }

    /** "All are 1 at first. A move has a price, 0 to 50, which is 1 at first, too." */
    private static void pricesAtFirst() {
        for (int kind = 0; kind < 4; kind++) {
            String k = kind + ".";
            int other = (kind + 1) % 4;
            new Run("deleting").after(Grow.tree(0, k + "1(" + k + "1)")).due("distance()", 2).due("stepPrice(1)", 1);
            new Run("inserting").after(Grow.tree(1, k + "1(" + k + "1)")).due("distance()", 2).due("stepPrice(1)", 1);
            new Run("relabelling").after(Grow.both(k + "1(" + other + ".1)", k + "2(" + other + ".1)"))
                .due("topDownDistance()", 1).due("distance()", 1).due("stepPrice(0)", 1);
        }
        new Run("a move").after(Grow.both("0.0(1.1 3.9)", "0.0(3.9 1.1)", "setPrices(3, 9, 9, 9)")).due("distance()", 2)
            .due("moves()", 1).due("distanceWithMoves()", 1).due("setMovePrice(1)", 1);
        new Run("a move is not cheaper").after(Grow.both("0.0(1.1 3.9)", "0.0(3.9 1.1)", "setPrices(3, 9, 9, 9)",
            "setPrices(1, 0, 1, 0)")).due("distance()", 1).due("moves()", 0);
    }

    private static Run distances(String about, String old, String current, int due, int dueSwapped, String... prices) {
        return new Run(about).after(Grow.both(old, current, prices)).due("distance()", due).due("distanceByForests()", due)
            .due("subtreeDistance(0, 0)", due).due("distanceWithMoves()", due).due("swapTrees()", Run.NOTHING)
            .due("distance()", dueSwapped).due("distanceByForests()", dueSwapped).due("swapTrees()", Run.NOTHING);
    }

    /** "Both nodes of a pair have the same kind." */
    private static void sameKind() {
        for (int old = 0; old < 4; old++) {
            for (int current = 0; current < 4; current++) {
                int due = old == current ? 0 : 2;
                distances("kinds " + old + " and " + current, old + ".5", current + ".5", due, due, "setMovePrice(50)")
                    .due("pairs()", old == current ? 1 : 0).due("canBePaired(0, 0)", old == current)
                    .due("topDownDistance()", due);
            }
        }
    }

    /** "No node is in two pairs." */
    private static void noNodeInTwoPairs() {
        distances("one for two", "0.0(1.1)", "0.0(1.1 1.1)", 7, 8, "setPrices(1, 7, 8, 9)").due("pairs()", 2)
            .due("swapTrees()", Run.NOTHING).due("pairs()", 2).due("partnerOf(1)", 1).due("partnerOf(2)", -1);
        distances("one for eleven", "0.0(1.1)", Grow.star("0.0", 11, "1.1"), 500, 500, "setPrices(1, 50, 50, 50)")
            .due("pairs()", 2);
    }

    /** "a is an ancestor of c exactly if b is an ancestor of d" */
    private static void ancestorsStayAncestors() {
        distances("a child becomes a brother", "0.0(1.1(2.2))", "0.0(1.1 2.2)", 2, 2, "setMovePrice(50)")
            .due("pairs()", 2).due("partnerOf(1)", 1).due("partnerOf(2)", -1).due("swapTrees()", Run.NOTHING)
            .due("pairs()", 2).due("partnerOf(1)", 1).due("partnerOf(2)", -1);
        distances("a node between", "0.0(1.1(2.2))", "0.0(1.1(3.3(2.2)))", 1, 1).due("pairs()", 3).due("partnerOf(2)", 3);
        distances("a root below a new root", "0.0(1.1)", "2.2(0.0(1.1))", 1, 1).due("pairs()", 2).due("partnerOf(0)", 1);
        distances("turned over", "0.0(1.1)", "1.1(0.0)", 2, 2, "setMovePrice(50)").due("pairs()", 1)
            .due("partnerOf(0)", 1).due("canBePaired(1, 0)", true);
    }

    /** "a comes before c in preorder exactly if b comes before d in preorder" */
    private static void orderStays() {
        distances("brothers", "0.0(1.1 2.2)", "0.0(2.2 1.1)", 2, 2, "setMovePrice(50)").due("pairs()", 2);
        distances("cousins", "0.0(1.1(2.2) 3.3)", "0.0(3.3(2.2) 1.1)", 4, 4, "setMovePrice(50)").due("pairs()", 2);
        distances("the order of what is in order", "0.0(1.1(2.2) 3.3)", "0.0(2.2 3.3)", 1, 1).due("pairs()", 3)
            .due("partnerOf(2)", 1).due("partnerOf(3)", 2);
    }

    /** "the relabelling prices of all pairs whose labels differ, the deleting prices .., and the inserting prices .." */
    private static void costs() {
        String[] prices = {"setPrices(0, 11, 13, 17)", "setPrices(1, 10, 20, 7)", "setPrices(2, 5, 30, 40)",
            "setPrices(3, 21, 22, 23)"};
        distances("all edits", "0.0(1.1 1.2 3.3)", "0.0(1.1 1.3 2.4)", 7 + 22 + 5, 7 + 30 + 21, prices)
            .due("pairs()", 3);
        distances("a root relabelled", "0.0", "0.1", 17, 17, prices);
        distances("labels that are the same", "0.99", "0.99", 0, 0, prices);
    }

    /** "The distance is the least cost of a mapping": also where a pair costs as much as none, or more. */
    private static void leastCost() {
        for (int relabelling = 0; relabelling <= 50; relabelling++) {
            int due = Math.min(relabelling, 20 + 15);
            distances("relabelling for " + relabelling, "0.0(1.1)", "0.0(1.2)", due, due, "setPrices(1, 20, 15, " + relabelling + ")",
                "setMovePrice(50)").due("pairs()", relabelling <= 35 ? 2 : 1).due("canBePaired(1, 1)", relabelling <= 35)
                .due("steps()", relabelling <= 35 ? 1 : 2);
        }
    }

    /** "The nodes of tree 0 are taken in preorder", not in the order of their numbers. */
    private static void takenInPreorder() {
        new Run("crossing brothers").after(Grow.backwards(0, "0.0(1.1 2.2)")).after(Grow.backwards(1, "0.0(2.2 1.1)"))
            .due("partnerOf(0)", 0).due("partnerOf(2)", 1).due("partnerOf(1)", -1).due("canBePaired(1, 2)", true)
            .due("canBePaired(2, 1)", true).due("pairs()", 2);
        new Run("crossing brothers, in order").after(Grow.both("0.0(1.1 2.2)", "0.0(2.2 1.1)")).due("partnerOf(1)", 2)
            .due("partnerOf(2)", -1);
        new Run("a parent before its child").after(Grow.both("0.0(1.1(2.2))", "0.0(2.2 1.1)")).due("partnerOf(1)", 2)
            .due("partnerOf(2)", -1).due("canBePaired(2, 1)", true);
    }

    /** "Each is paired with the first node of tree 1, in preorder, for which there is a cheapest mapping .." */
    private static void firstNodeInPreorder() {
        new Run("the first brother").after(Grow.tree(0, "0.0(1.1)")).after(Grow.backwards(1, "0.0(1.1 1.1 1.1)"))
            .due("partnerOf(1)", 3);
        new Run("the uppermost one").after(Grow.both("0.0(1.1)", "0.0(1.1(1.1(1.1)))")).due("partnerOf(1)", 1)
            .due("canBePaired(1, 3)", true);
        new Run("the first one is dearer").after(Grow.both("0.0(1.1)", "0.0(1.2 1.1)")).due("partnerOf(1)", 2)
            .due("canBePaired(1, 1)", false);
        new Run("the first one costs the same").after(Grow.both("0.0(1.1)", "0.0(1.2 1.1)", "setPrices(1, 1, 1, 0)"))
            .due("partnerOf(1)", 1).due("canBePaired(1, 1)", true).due("canBePaired(1, 2)", true).due("stepKind(0)", 1);
        new Run("no node is left unpaired that can be paired").after(Grow.both("0.0(1.1)", "0.0(1.2)", "setPrices(1, 0, 0, 0)"))
            .due("partnerOf(1)", 1).due("steps()", 1);
        new Run("a root for the first of the chain").after(Grow.both("0.0", Grow.chain(12, "0.0"))).due("partnerOf(0)", 0)
            .due("canBePaired(0, 11)", true);
    }

    /** ".. that has this pair, has all pairs chosen before": the pair alone would be in a cheapest mapping. */
    private static void pairsChosenBefore() {
        new Run("an earlier pair stands against it").after(Grow.both("0.0(1.1 2.2)", "0.0(2.2 1.1)"))
            .due("canBePaired(2, 1)", true).due("partnerOf(2)", -1);
        new Run("an earlier pair takes the node").after(Grow.both("0.0(1.1 1.1)", "0.0(1.1)")).due("canBePaired(2, 1)", true)
            .due("partnerOf(1)", 1).due("partnerOf(2)", -1);
        new Run("an earlier pair takes the first node").after(Grow.both("0.0(1.1 1.1)", "0.0(1.1 1.1 1.1)"))
            .due("partnerOf(1)", 1).due("partnerOf(2)", 2).due("canBePaired(2, 3)", true).due("canBePaired(1, 2)", true)
            .due("canBePaired(1, 3)", false).due("canBePaired(2, 1)", false);
        new Run("children go where their parents went").after(Grow.both("0.0(1.1(2.2))", "0.0(1.1(2.2) 1.1(2.2))"))
            .due("partnerOf(1)", 1).due("partnerOf(2)", 2).due("canBePaired(2, 4)", true);
    }

    private static Run topDowns(String about, String old, String current, int due, int dueSwapped, int distance) {
        return new Run(about).after(Grow.both(old, current, "setPrices(3, 2, 3, 4)")).due("topDownDistance()", due)
            .due("swapTrees()", Run.NOTHING).due("topDownDistance()", dueSwapped).due("swapTrees()", Run.NOTHING)
            .due("distance()", distance);
    }

    /** "A mapping is top-down if each of its pairs either consists of both roots or of two nodes whose parents are a pair" */
    private static void topDown() {
        topDowns("both roots", "0.0", "0.0", 0, 0, 0);
        topDowns("roots of two kinds", "0.0", "1.0", 2, 2, 2);
        topDowns("no pair below unpaired roots", "0.0(3.3)", "1.1(3.3)", 2 + 3 + 2, 2 + 2 + 3, 2);
        topDowns("a root and a child", "0.0", "1.1(0.0)", 3, 3, 1);
        topDowns("a node between", "0.0(1.1)", "0.0(2.2(1.1))", 3, 3, 1);
        topDowns("one level down", "0.0(1.1(2.2(3.3)))", "0.0(1.1(2.2(3.4)))", 4, 4, 4);
        topDowns("parents that are no pair", "0.0(1.1(3.3) 2.2(1.1))", "0.0(1.1 2.2(3.3 1.1))", 3 + 2, 3 + 2, 4);
        topDowns("order", "0.0(1.1 2.2)", "0.0(2.2 1.1)", 2, 2, 2);
        topDowns("one relabelled or both unpaired", "0.0(3.1(1.1))", "0.0(3.2(1.1))", 4, 4, 4);
        topDowns("empty but for roots", "0.7", "0.8", 1, 1, 1);
    }

    /** "An object is used for at most 512 calls after it has been made": the last of them is answered like the first. */
    private static void callsOfOneObject() {
        Run run = new Run("the 512th call").after(Grow.both("0.1(1.2)", "0.1(1.3 2.4)"));
        int made = 5;
        for (int label = 4; made + 4 <= Run.MOST_CALLS; label = label == 99 ? 4 : label + 1) {
            run.due("setLabel(1, 1, " + label + ")", made == 5 ? 3 : label == 4 ? 99 : label - 1).due("distance()", 2)
                .due("labelAfter(1, 1)", label).due("partnerOf(1)", 1);
            made += 4;
        }
        while (made < Run.MOST_CALLS) {
            run.due("distanceWithMoves()", 2);
            made++;
        }
    }
}
