/** Promises 24 to 26: the chosen mapping. */
public final class MappingTest {
    public static void main(String[] args) {
        chains();
        firstInPreorder();
        unpairedOnlyIfNeeded();
        zeroPrices();
        twelvePairs();
        wrongNodes();
        Run.end("MappingTest");
    }

    private static Run chain(String about, int old, int current) {
        Run run = new Run(about).after("addRoot(0, 0, 1)", "addRoot(1, 0, 1)");
        for (int node = 1; node < old; node++) {
            run.after("add(0, " + (node - 1) + ", 0, 0, 1)");
        }
        for (int node = 1; node < current; node++) {
            run.after("add(1, " + (node - 1) + ", 0, 0, 1)");
        }
        return run;
    }

    /** All labels are equal, so the first nodes are paired with the first ones. */
    private static void chains() {
        Run run = chain("promise 25, chains", 12, 2).due("pairs()", 2).due("partnerOf(0)", 0).due("partnerOf(1)", 1);
        for (int node = 2; node < 12; node++) {
            run.due("partnerOf(" + node + ")", -1).due("canBePaired(" + node + ", 1)", true)
                .due("canBePaired(" + node + ", 0)", node < 11);
        }
        run.due("canBePaired(0, 0)", true).due("canBePaired(0, 1)", false).after("swapTrees()").due("pairs()", 2)
            .due("partnerOf(0)", 0).due("partnerOf(1)", 1);
    }

    /** Node numbers run against preorder here: the first node in preorder counts, not the lowest number. */
    private static void firstInPreorder() {
        new Run("promise 25, preorder").after("addRoot(0, 0, 0)", "add(0, 0, 0, 1, 1)", "addRoot(1, 0, 0)",
            "add(1, 0, 0, 1, 1)", "add(1, 0, 0, 1, 1)", "add(1, 0, 0, 1, 1)").due("distance()", 2).due("partnerOf(1)", 3)
            .due("canBePaired(1, 1)", true).due("canBePaired(1, 2)", true).due("canBePaired(1, 3)", true)
            .due("canBePaired(1, 0)", false).due("pairs()", 2);
        new Run("promise 25, preorder of tree 0").after("addRoot(0, 0, 0)", "add(0, 0, 0, 1, 1)", "add(0, 0, 0, 1, 1)",
            "addRoot(1, 0, 0)", "add(1, 0, 0, 1, 1)").due("partnerOf(2)", 1).due("partnerOf(1)", -1)
            .due("canBePaired(1, 1)", true);
    }

    /** Deleting and inserting costs as much as relabelling: a pair is chosen all the same. */
    private static void unpairedOnlyIfNeeded() {
        new Run("promise 25, ties").after("addRoot(0, 0, 0)", "addRoot(1, 0, 1)", "setPrices(0, 2, 3, 5)").due("pairs()", 1)
            .due("partnerOf(0)", 0).after("setPrices(0, 2, 3, 6)").due("pairs()", 0).due("partnerOf(0)", -1)
            .due("canBePaired(0, 0)", false).after("setLabel(0, 0, 1)").due("partnerOf(0)", 0);
        new Run("promise 25, kinds").after("addRoot(0, 0, 0)", "addRoot(1, 1, 0)").due("partnerOf(0)", -1)
            .due("canBePaired(0, 0)", false).due("pairs()", 0);
        new Run("promise 26, no cheapest mapping has both").after("addRoot(0, 0, 0)", "add(0, 0, 0, 1, 1)",
            "add(0, 0, 1, 2, 2)", "addRoot(1, 0, 0)", "add(1, 0, 0, 2, 2)", "add(1, 0, 1, 1, 1)")
            .due("canBePaired(1, 2)", true).due("canBePaired(2, 1)", true).due("partnerOf(1)", 2).due("partnerOf(2)", -1)
            .due("pairs()", 2).after("setPrices(2, 2, 1, 1)").due("canBePaired(1, 2)", false).due("partnerOf(1)", -1)
            .due("partnerOf(2)", 1);
    }

    private static void zeroPrices() {
        chain("promise 26, all is free", 3, 3).after("setPrices(0, 0, 0, 0)").due("pairs()", 3).due("partnerOf(2)", 2)
            .due("canBePaired(2, 0)", true).due("canBePaired(0, 2)", true).due("canBePaired(1, 1)", true);
        new Run("promise 25, all is free").after("setPrices(0, 0, 0, 0)", "addRoot(0, 0, 0)", "add(0, 0, 0, 0, 1)",
            "addRoot(1, 0, 2)", "add(1, 0, 0, 0, 1)", "add(1, 0, 1, 0, 1)").due("partnerOf(0)", 0).due("partnerOf(1)", 1)
            .due("canBePaired(0, 1)", true).due("canBePaired(0, 2)", true).due("distance()", 0);
    }

    /** From no pair to 12, the most there can be. */
    private static void twelvePairs() {
        for (int nodes = 1; nodes <= 12; nodes++) {
            Run run = chain("promise 24, chains of 12 and " + nodes, 12, nodes).due("pairs()", nodes)
                .due("distance()", 12 - nodes).due("partnerOf(" + (nodes - 1) + ")", nodes - 1);
            if (nodes < 12) {
                run.due("partnerOf(" + nodes + ")", -1);
            }
        }
        Run full = new Run("promise 25, stars of 12 nodes").after(Grow.backwards(0, Grow.star("1.1", 11, "2.2")))
            .after(Grow.tree(1, Grow.star("1.1", 11, "2.2"))).due("pairs()", 12).due("partnerOf(0)", 0);
        for (int node = 1; node < 12; node++) {
            full.due("partnerOf(" + node + ")", 12 - node).due("canBePaired(" + node + ", " + (12 - node) + ")", true)
                .due("canBePaired(" + node + ", " + node + ")", node == 6).due("canBePaired(0, " + node + ")", false);
        }
        new Run("promise 24, no pair").after(Grow.both(Grow.chain(12, "1.1"), Grow.chain(12, "2.1"))).due("pairs()", 0)
            .due("partnerOf(0)", -1).due("partnerOf(11)", -1).due("canBePaired(11, 11)", false);
    }

    private static void wrongNodes() {
        new Run("promises 25 and 26, empty").due("pairs()", 0).due("partnerOf(0)", Run.INDEX)
            .due("canBePaired(0, 0)", Run.INDEX).after("addRoot(1, 0, 0)").due("partnerOf(0)", Run.INDEX)
            .due("canBePaired(0, 0)", Run.INDEX).after("swapTrees()").due("partnerOf(0)", -1).due("pairs()", 0)
            .due("canBePaired(0, 0)", Run.INDEX);
        Run run = chain("promises 25 and 26, wrong nodes", 3, 2);
        for (String wrong : new String[] {"3", "-1", "12", "2147483647", "-2147483648"}) {
            run.due("partnerOf(" + wrong + ")", Run.INDEX).due("canBePaired(" + wrong + ", 0)", Run.INDEX)
                .due("canBePaired(0, " + wrong + ")", Run.INDEX);
        }
        run.due("canBePaired(0, 2)", Run.INDEX).due("canBePaired(2, 0)", false).due("canBePaired(2, 1)", true);
    }
}
