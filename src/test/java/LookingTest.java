/** Promises 9 to 18: the trees as they are. */
public final class LookingTest {
    /** 0 has the children 3, 1 and 4; 3 has 5; 1 has 2 and 6; 6 has 7. */
    private static Run grown(String about, int tree) {
        return new Run(about).after("addRoot(" + tree + ", 0, 10)", "add(" + tree + ", 0, 0, 1, 11)",
            "add(" + tree + ", 1, 0, 2, 12)", "add(" + tree + ", 0, 0, 3, 13)", "add(" + tree + ", 0, 2, 0, 14)",
            "add(" + tree + ", 3, 0, 1, 15)", "add(" + tree + ", 1, 1, 2, 99)", "add(" + tree + ", 6, 0, 3, 0)");
    }

    private static void each(String method, int promise, Object... due) {
        for (int tree = 0; tree < 2; tree++) {
            Run run = grown("promise " + promise, tree);
            for (int i = 0; i < due.length; i++) {
                run.due(method + "(" + tree + ", " + i + ")", due[i]);
            }
            for (String wrong : new String[] {"8", "12", "-1", "2147483647", "-2147483648"}) {
                run.due(method + "(" + tree + ", " + wrong + ")", Run.INDEX);
            }
            run.due(method + "(" + (1 - tree) + ", 0)", Run.INDEX);
            for (String wrong : new String[] {"2", "-1", "2147483647", "-2147483648"}) {
                run.due(method + "(" + wrong + ", 0)", Run.INDEX);
            }
        }
    }

    public static void main(String[] args) {
        nodes();
        each("parentOf", 10, -1, 0, 1, 0, 0, 3, 1, 6);
        each("kindOf", 11, 0, 1, 2, 3, 0, 1, 2, 3);
        each("labelOf", 12, 10, 11, 12, 13, 14, 15, 99, 0);
        each("children", 13, 3, 2, 0, 1, 0, 0, 1, 0);
        childAt();
        each("inPreorder", 15, 0, 3, 5, 1, 2, 6, 7, 4);
        each("inPostorder", 16, 5, 3, 2, 7, 6, 1, 4, 0);
        each("subtreeSize", 17, 8, 4, 1, 2, 1, 1, 2, 1);
        each("isKeyroot", 18, true, true, false, false, true, false, true, false);
        keyrootsChange();
        extremes();
        Run.end("LookingTest");
    }

    private static void nodes() {
        for (int tree = 0; tree < 2; tree++) {
            grown("promise 9", tree).due("nodes(" + tree + ")", 8).due("nodes(" + (1 - tree) + ")", 0)
                .due("nodes(2)", Run.INDEX).due("nodes(-1)", Run.INDEX).due("nodes(2147483647)", Run.INDEX)
                .due("nodes(-2147483648)", Run.INDEX).due("add(" + tree + ", 0, 4, 0, 0)", Run.INDEX)
                .due("nodes(" + tree + ")", 8).due("add(" + tree + ", 0, 3, 0, 0)", 8).due("nodes(" + tree + ")", 9);
        }
    }

    private static void childAt() {
        for (int tree = 0; tree < 2; tree++) {
            String t = "childAt(" + tree + ", ";
            grown("promise 14", tree).due(t + "0, 0)", 3).due(t + "0, 1)", 1).due(t + "0, 2)", 4).due(t + "1, 0)", 2)
                .due(t + "1, 1)", 6).due(t + "3, 0)", 5).due(t + "6, 0)", 7).due(t + "0, 3)", Run.INDEX)
                .due(t + "0, -1)", Run.INDEX).due(t + "1, 2)", Run.INDEX).due(t + "7, 0)", Run.INDEX)
                .due(t + "8, 0)", Run.INDEX).due(t + "-1, 0)", Run.INDEX).due(t + "0, 2147483647)", Run.INDEX)
                .due(t + "0, -2147483648)", Run.INDEX).due("childAt(2, 0, 0)", Run.INDEX)
                .due("childAt(-1, 0, 0)", Run.INDEX).due("childAt(" + (1 - tree) + ", 0, 0)", Run.INDEX);
        }
    }

    /** The ends of what is returned: one node alone, and 12 nodes as a star and as a chain. */
    private static void extremes() {
        for (int tree = 0; tree < 2; tree++) {
            String t = "(" + tree + ", ";
            new Run("one node alone").after(Grow.tree(tree, "3.99")).due("nodes(" + tree + ")", 1).due("parentOf" + t + "0)", -1)
                .due("kindOf" + t + "0)", 3).due("labelOf" + t + "0)", 99).due("children" + t + "0)", 0)
                .due("childAt" + t + "0, 0)", Run.INDEX).due("inPreorder" + t + "0)", 0).due("inPostorder" + t + "0)", 0)
                .due("subtreeSize" + t + "0)", 1).due("isKeyroot" + t + "0)", true);
            Run star = new Run("a star").after(Grow.tree(tree, Grow.star("0.0", 11, "0.0"))).due("nodes(" + tree + ")", 12)
                .due("children" + t + "0)", 11).due("subtreeSize" + t + "0)", 12).due("isKeyroot" + t + "0)", true)
                .due("isKeyroot" + t + "1)", false).due("inPostorder" + t + "11)", 0).due("inPreorder" + t + "11)", 11);
            Run chain = new Run("a chain").after(Grow.tree(tree, Grow.chain(12, "0.0"))).due("nodes(" + tree + ")", 12)
                .due("isKeyroot" + t + "0)", true).due("children" + t + "11)", 0).due("inPostorder" + t + "11)", 0);
            for (int node = 1; node < 12; node++) {
                star.due("parentOf" + t + node + ")", 0).due("subtreeSize" + t + node + ")", 1)
                    .due("isKeyroot" + t + node + ")", node > 1).due("childAt" + t + "0, " + (node - 1) + ")", node)
                    .due("inPostorder" + t + (node - 1) + ")", node);
                chain.due("parentOf" + t + node + ")", node - 1).due("subtreeSize" + t + node + ")", 12 - node)
                    .due("isKeyroot" + t + node + ")", false).due("childAt" + t + (node - 1) + ", 0)", node)
                    .due("inPostorder" + t + (11 - node) + ")", node).due("children" + t + (node - 1) + ")", 1);
            }
        }
    }

    private static void keyrootsChange() {
        new Run("promise 18, a new first child").after("addRoot(0, 0, 0)", "add(0, 0, 0, 0, 0)").due("isKeyroot(0, 1)", false)
            .after("add(0, 0, 0, 0, 0)").due("isKeyroot(0, 1)", true).due("isKeyroot(0, 2)", false).due("isKeyroot(0, 0)", true);
    }
}
