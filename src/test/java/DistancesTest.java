/** Promises 19 to 23: distances. */
public final class DistancesTest {
    /** The old tree is 1(2(4 5) 3), the new one 1(3(2(4 5))), all of kind 0. */
    private static Run wrapped(String about) {
        return new Run(about).after("addRoot(0, 0, 1)", "add(0, 0, 0, 0, 2)", "add(0, 0, 1, 0, 3)", "add(0, 1, 0, 0, 4)",
            "add(0, 1, 1, 0, 5)", "addRoot(1, 0, 1)", "add(1, 0, 0, 0, 3)", "add(1, 1, 0, 0, 2)", "add(1, 2, 0, 0, 4)",
            "add(1, 2, 1, 0, 5)");
    }

    public static void main(String[] args) {
        for (String distance : new String[] {"distance()", "distanceByForests()"}) {
            distances(distance, distance.equals("distance()") ? "promise 19" : "promise 20");
        }
        subtreeDistance();
        topDownDistance();
        stars();
        similarity();
        Run.end("DistancesTest");
    }

    private static void distances(String distance, String about) {
        wrapped(about).due(distance, 2).after("setPrices(0, 5, 3, 1)").due(distance, 8).after("setPrices(0, 50, 50, 0)")
            .due(distance, 100).after("setPrices(0, 0, 0, 50)").due(distance, 0).after("setPrices(0, 50, 50, 50)")
            .due(distance, 100).after("swapTrees()").due(distance, 100);
        new Run(about + ", one empty tree").after("addRoot(0, 1, 0)", "add(0, 0, 0, 2, 0)", "setPrices(1, 9, 4, 9)",
            "setPrices(2, 8, 50, 8)").due(distance, 54).after("swapTrees()").due(distance, 17).after("clear(1)")
            .due(distance, 0);
        new Run(about + ", kinds are not paired").after("addRoot(0, 1, 5)", "addRoot(1, 2, 5)", "setPrices(1, 50, 50, 0)",
            "setPrices(2, 50, 50, 0)").due(distance, 100);
        new Run(about + ", labels").after("addRoot(0, 1, 5)", "addRoot(1, 1, 6)").due(distance, 1)
            .after("setPrices(1, 2, 3, 4)").due(distance, 4).after("setPrices(1, 2, 3, 6)").due(distance, 5)
            .after("setLabel(1, 0, 5)").due(distance, 0);
        Run full = new Run(about + ", 12 nodes").after("setPrices(0, 50, 50, 50)", "setPrices(1, 50, 50, 50)",
            "addRoot(0, 0, 0)", "addRoot(1, 1, 0)");
        for (int node = 1; node < 12; node++) {
            full.after("add(0, " + (node - 1) / 2 + ", " + (node - 1) % 2 + ", 0, 0)",
                "add(1, " + (node - 1) + ", 0, 1, 0)");
        }
        full.due(distance, 1200).after("swapTrees()").due(distance, 1200).after("clear(1)").due(distance, 600)
            .after("addRoot(1, 1, 0)").due(distance, 550);
    }

    private static void subtreeDistance() {
        Run run = wrapped("promise 21").due("subtreeDistance(0, 0)", 2).due("subtreeDistance(1, 2)", 0)
            .due("subtreeDistance(1, 1)", 1).due("subtreeDistance(2, 1)", 3).due("subtreeDistance(3, 3)", 0)
            .due("subtreeDistance(3, 4)", 1).due("subtreeDistance(0, 4)", 4).due("subtreeDistance(4, 0)", 4)
            .due("subtreeDistance(5, 0)", Run.INDEX).due("subtreeDistance(0, 5)", Run.INDEX)
            .due("subtreeDistance(-1, 0)", Run.INDEX).due("subtreeDistance(0, -1)", Run.INDEX)
            .due("subtreeDistance(2147483647, 0)", Run.INDEX).due("subtreeDistance(0, -2147483648)", Run.INDEX)
            .after("setPrices(0, 5, 7, 50)").due("subtreeDistance(1, 1)", 5).due("subtreeDistance(3, 4)", 12)
            .due("subtreeDistance(0, 0)", 12);
        run.after("clear(1)").due("subtreeDistance(0, 0)", Run.INDEX).after("swapTrees()")
            .due("subtreeDistance(0, 0)", Run.INDEX);
    }

    private static void topDownDistance() {
        wrapped("promise 22").due("topDownDistance()", 6).after("swapTrees()").due("topDownDistance()", 6);
        new Run("promise 22, empty").due("topDownDistance()", 0).after("addRoot(0, 0, 0)", "add(0, 0, 0, 1, 0)",
            "setPrices(1, 4, 5, 6)").due("topDownDistance()", 6).after("swapTrees()").due("topDownDistance()", 5);
        new Run("promise 22, roots of two kinds").after("addRoot(0, 0, 0)", "add(0, 0, 0, 1, 0)", "addRoot(1, 2, 0)",
            "add(1, 0, 0, 1, 0)").due("topDownDistance()", 4).due("distance()", 2);
        new Run("promise 22, dear labels").after("addRoot(0, 0, 0)", "add(0, 0, 0, 1, 0)", "addRoot(1, 0, 1)",
            "add(1, 0, 0, 1, 0)").due("topDownDistance()", 1).after("setPrices(0, 1, 1, 5)").due("topDownDistance()", 4)
            .after("setPrices(0, 1, 1, 3)").due("topDownDistance()", 3);
        new Run("promise 22, children in order").after("addRoot(0, 0, 0)", "add(0, 0, 0, 1, 1)", "add(0, 0, 1, 2, 2)",
            "add(0, 0, 2, 3, 3)", "add(0, 2, 0, 0, 4)", "addRoot(1, 0, 0)", "add(1, 0, 0, 2, 2)", "add(1, 1, 0, 0, 5)",
            "add(1, 0, 1, 1, 1)", "add(1, 0, 2, 3, 9)").due("topDownDistance()", 4).due("distance()", 4)
            .after("setLabel(1, 2, 4)").due("topDownDistance()", 3);
    }

    /** Roots with 11 children each, the new ones shifted by one. */
    private static void stars() {
        Run run = new Run("promises 19 to 22, stars of 12 nodes").after("addRoot(0, 0, 0)", "addRoot(1, 0, 0)");
        for (int node = 1; node < 12; node++) {
            run.after("add(0, 0, " + (node - 1) + ", 1, " + node + ")", "add(1, 0, 0, 1, " + (13 - node) + ")");
        }
        run.due("topDownDistance()", 2).due("distance()", 2).due("distanceByForests()", 2).due("subtreeDistance(0, 0)", 2)
            .due("pairs()", 11).due("partnerOf(1)", -1).due("partnerOf(2)", 11).due("partnerOf(11)", 2)
            .after("setPrices(1, 50, 50, 50)").due("topDownDistance()", 100).due("distance()", 100)
            .after("setPrices(1, 50, 50, 3)").due("topDownDistance()", 33).due("distance()", 33).due("distanceByForests()", 33)
            .due("partnerOf(1)", 11);
    }

    private static void similarity() {
        wrapped("promise 23").due("similarity()", 0.8).after("setPrices(0, 5, 3, 1)").due("similarity()", 1.0 - 8.0 / 40.0)
            .after("setPrices(0, 0, 0, 50)").due("similarity()", 1.0).after("setPrices(0, 1, 0, 50)")
            .due("similarity()", 1.0 - 1.0 / 5.0);
        new Run("promise 23, empty").due("similarity()", 1.0).after("addRoot(0, 0, 0)").due("similarity()", 0.0)
            .after("addRoot(1, 0, 0)").due("similarity()", 1.0).after("add(0, 0, 0, 1, 1)")
            .due("similarity()", 1.0 - 1.0 / 3.0).after("setPrices(1, 0, 0, 0)", "clear(1)").due("similarity()", 0.0)
            .after("setPrices(0, 0, 0, 0)").due("similarity()", 1.0);
        new Run("promise 23, only deleting costs").after("setPrices(0, 0, 50, 50)", "addRoot(1, 0, 0)").due("similarity()", 1.0)
            .after("swapTrees()").due("similarity()", 0.0).after("addRoot(1, 0, 1)").due("similarity()", 0.0)
            .after("setPrices(0, 0, 50, 49)").due("similarity()", 1.0 - 49.0 / 50.0).after("setPrices(0, 0, 50, 0)")
            .due("similarity()", 1.0).after("setPrices(0, 0, 0, 50)").due("similarity()", 1.0);
        new Run("promise 23, the greatest cost").after(Grow.both(Grow.chain(12, "0.0"), Grow.star("1.0", 11, "1.0"),
            "setPrices(0, 50, 50, 50)", "setPrices(1, 50, 50, 50)")).due("similarity()", 0.0).after("clear(1)", "addRoot(1, 0, 0)")
            .due("similarity()", 1.0 - 550.0 / 650.0);
    }
}
