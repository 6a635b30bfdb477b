/** Promises 27 to 33: the script and the forests after its steps. */
public final class ScriptTest {
    /**
     * Labels by shape: the old tree is 5(3(1) 1(1(2))), the new one 5(9(2) 7(8)). The nodes labelled 3 and 1, 1
     * are deleted, 1 becomes 9, and 7 and 8 are inserted. No number of a node is its place in preorder.
     */
    private static Run edited(String about) {
        return new Run(about).after("addRoot(0, 0, 5)", "add(0, 0, 0, 1, 1)", "add(0, 0, 0, 3, 3)", "add(0, 2, 0, 3, 1)",
            "add(0, 1, 0, 3, 1)", "add(0, 4, 0, 1, 2)", "addRoot(1, 0, 5)", "add(1, 0, 0, 2, 7)", "add(1, 1, 0, 2, 8)",
            "add(1, 0, 0, 1, 9)", "add(1, 3, 0, 1, 2)", "setPrices(1, 10, 20, 3)", "setPrices(3, 11, 4, 12)",
            "setPrices(2, 5, 13, 14)");
    }

    public static void main(String[] args) {
        steps();
        forests();
        deepForests();
        edges();
        relabellings();
        onlyOneKindOfStep();
        wrongSteps();
        Run.end("ScriptTest");
    }

    private static void steps() {
        edited("promises 27 to 30").due("steps()", 6).due("distance()", 4 + 4 + 4 + 3 + 5 + 5)
            .due("stepKind(0)", 0).due("stepNode(0)", 3).due("stepPrice(0)", 4)
            .due("stepKind(1)", 0).due("stepNode(1)", 2).due("stepPrice(1)", 4)
            .due("stepKind(2)", 0).due("stepNode(2)", 4).due("stepPrice(2)", 4)
            .due("stepKind(3)", 1).due("stepNode(3)", 1).due("stepPrice(3)", 3)
            .due("stepKind(4)", 2).due("stepNode(4)", 1).due("stepPrice(4)", 5)
            .due("stepKind(5)", 2).due("stepNode(5)", 2).due("stepPrice(5)", 5);
        new Run("promise 29, relabelling in preorder").after("addRoot(0, 0, 1)", "add(0, 0, 0, 1, 1)", "add(0, 0, 0, 2, 1)",
            "addRoot(1, 0, 2)", "add(1, 0, 0, 1, 2)", "add(1, 0, 0, 2, 2)").due("steps()", 3).due("stepNode(0)", 0)
            .due("stepNode(1)", 2).due("stepNode(2)", 1);
        new Run("promise 29, deleting in postorder").after("addRoot(0, 0, 1)", "add(0, 0, 0, 1, 1)", "add(0, 0, 0, 2, 1)",
            "add(0, 2, 0, 2, 1)").due("stepNode(0)", 3).due("stepNode(1)", 2).due("stepNode(2)", 1).due("stepNode(3)", 0)
            .after("swapTrees()").due("stepNode(0)", 0).due("stepNode(1)", 2).due("stepNode(2)", 3).due("stepNode(3)", 1)
            .due("stepKind(3)", 2);
        new Run("promise 27, a free relabelling is a step").after("setPrices(0, 1, 1, 0)", "addRoot(0, 0, 1)",
            "addRoot(1, 0, 2)").due("steps()", 1).due("stepKind(0)", 1).due("stepPrice(0)", 0).due("distance()", 0)
            .after("setLabel(1, 0, 1)").due("steps()", 0);
    }

    private static void forests() {
        Run run = edited("promises 31 to 33");
        forest(run, 0, "5:0 3:1 1:2 1:1 1:2 2:3");
        forest(run, 1, "5:0 3:1 1:1 1:2 2:3");
        forest(run, 2, "5:0 1:1 1:2 2:3");
        forest(run, 3, "5:0 1:1 2:2");
        forest(run, 4, "5:0 9:1 2:2");
        forest(run, 5, "5:0 9:1 2:2 7:1");
        forest(run, 6, "5:0 9:1 2:2 7:1 8:2");
        run.due("labelAfter(6, 5)", Run.INDEX).due("depthAfter(6, 5)", Run.INDEX).due("labelAfter(4, 3)", Run.INDEX)
            .due("depthAfter(4, 3)", Run.INDEX).due("labelAfter(0, 6)", Run.INDEX).due("depthAfter(0, 6)", Run.INDEX)
            .due("labelAfter(0, -1)", Run.INDEX).due("depthAfter(0, -1)", Run.INDEX).due("labelAfter(7, 0)", Run.INDEX)
            .due("depthAfter(7, 0)", Run.INDEX).due("sizeAfter(7)", Run.INDEX);
    }

    private static void forest(Run run, int steps, String labelsAndDepths) {
        String[] nodes = labelsAndDepths.split(" ");
        run.due("sizeAfter(" + steps + ")", nodes.length);
        for (int place = 0; place < nodes.length; place++) {
            String[] node = nodes[place].split(":");
            run.due("labelAfter(" + steps + ", " + place + ")", node[0]);
            run.due("depthAfter(" + steps + ", " + place + ")", node[1]);
        }
    }

    /** Both roots fall, so that the forest has more than one root. */
    private static void deepForests() {
        Run run = new Run("promises 31 to 33, roots fall").after("addRoot(0, 0, 1)", "add(0, 0, 0, 1, 2)",
            "add(0, 0, 1, 1, 3)", "add(0, 2, 0, 1, 4)", "addRoot(1, 2, 9)", "add(1, 0, 0, 1, 2)", "add(1, 0, 1, 1, 3)",
            "add(1, 2, 0, 1, 4)").due("steps()", 2).due("pairs()", 3);
        forest(run, 0, "1:0 2:1 3:1 4:2");
        forest(run, 1, "2:0 3:0 4:1");
        forest(run, 2, "9:0 2:1 3:1 4:2");
    }

    private static void edges() {
        new Run("promises 27 to 33, equal trees").after("addRoot(0, 0, 1)", "addRoot(1, 0, 1)").due("steps()", 0)
            .due("stepKind(0)", Run.INDEX).due("stepNode(0)", Run.INDEX).due("stepPrice(0)", Run.INDEX)
            .due("sizeAfter(0)", 1).due("sizeAfter(1)", Run.INDEX).due("labelAfter(0, 0)", 1).due("depthAfter(0, 0)", 0)
            .due("labelAfter(0, 1)", Run.INDEX).due("depthAfter(0, 1)", Run.INDEX);
        new Run("promises 27 to 33, empty").due("steps()", 0).due("sizeAfter(0)", 0).due("sizeAfter(1)", Run.INDEX)
            .due("sizeAfter(-1)", Run.INDEX).due("labelAfter(0, 0)", Run.INDEX).due("depthAfter(0, 0)", Run.INDEX)
            .due("stepKind(0)", Run.INDEX);
        Run full = new Run("promises 27 to 33, 12 nodes each").after("addRoot(0, 0, 0)", "addRoot(1, 1, 50)");
        for (int node = 1; node < 12; node++) {
            full.after("add(0, " + (node - 1) + ", 0, 0, " + node + ")", "add(1, 0, " + (node - 1) + ", 1, " + (50 + node) + ")");
        }
        full.due("steps()", 24).due("stepNode(0)", 11).due("stepNode(11)", 0).due("stepNode(12)", 0).due("stepNode(23)", 11)
            .due("sizeAfter(0)", 12).due("sizeAfter(12)", 0).due("sizeAfter(24)", 12).due("labelAfter(0, 11)", 11)
            .due("depthAfter(0, 11)", 11).due("labelAfter(24, 11)", 61).due("depthAfter(24, 11)", 1)
            .due("labelAfter(12, 0)", Run.INDEX).due("depthAfter(12, 0)", Run.INDEX).due("labelAfter(13, 0)", 50)
            .due("stepKind(24)", Run.INDEX).due("sizeAfter(25)", Run.INDEX).due("stepKind(23)", 2).due("stepKind(11)", 0);
    }

    /** Each of 12 nodes is relabelled, in preorder: a node has its own label up to its step, its partner's after it. */
    private static void relabellings() {
        Run run = new Run("promises 28 to 32, 12 relabellings").after(Grow.backwards(0, Grow.star("0.1", 11, "1.2")))
            .after(Grow.tree(1, Grow.star("0.51", 11, "1.52"))).after("setPrices(1, 9, 9, 5)").due("steps()", 12)
            .due("stepNode(0)", 0).due("stepPrice(0)", 1).due("distance()", 56).due("stepKind(12)", Run.INDEX);
        for (int n = 1; n < 12; n++) {
            run.due("stepKind(" + n + ")", TreeComparer.RELABEL).due("stepNode(" + n + ")", 12 - n).due("stepPrice(" + n + ")", 5);
        }
        for (int n = 0; n <= 12; n++) {
            run.due("sizeAfter(" + n + ")", 12);
            for (int place = 0; place < 12; place++) {
                run.due("labelAfter(" + n + ", " + place + ")", (place == 0 ? 1 : 2) + (place < n ? 50 : 0));
            }
            run.due("depthAfter(" + n + ", 0)", 0).due("depthAfter(" + n + ", 11)", 1);
        }
    }

    private static void onlyOneKindOfStep() {
        Run deleting = new Run("promises 31 to 33, a chain is deleted from below").after(Grow.tree(0, "0.1(0.2(0.3))"));
        forest(deleting, 0, "1:0 2:1 3:2");
        forest(deleting, 1, "1:0 2:1");
        forest(deleting, 2, "1:0");
        deleting.due("sizeAfter(3)", 0).due("labelAfter(3, 0)", Run.INDEX).due("depthAfter(3, 0)", Run.INDEX);
        Run inserting = new Run("promises 31 to 33, a chain is inserted from above").after(Grow.tree(1, "0.1(0.2(0.3))"))
            .due("sizeAfter(0)", 0).due("labelAfter(0, 0)", Run.INDEX).due("depthAfter(0, 0)", Run.INDEX);
        forest(inserting, 1, "1:0");
        forest(inserting, 2, "1:0 2:1");
        forest(inserting, 3, "1:0 2:1 3:2");
        Run between = new Run("promise 33, a node is inserted above others").after(Grow.both("0.1(1.2(1.3))", "0.1(2.9(1.2(2.8(1.3))))"));
        forest(between, 0, "1:0 2:1 3:2");
        forest(between, 1, "1:0 9:1 2:2 3:3");
        forest(between, 2, "1:0 9:1 2:2 8:3 3:4");
        between.after("swapTrees()");
        forest(between, 0, "1:0 9:1 2:2 8:3 3:4");
        forest(between, 1, "1:0 9:1 2:2 3:3");
        forest(between, 2, "1:0 2:1 3:2");
        Run brothers = new Run("promise 33, a brother is no ancestor").after(Grow.both("0.1(1.2(1.3) 1.4)", "0.1(1.2(1.3) 1.4)"));
        forest(brothers, 0, "1:0 2:1 3:2 4:1");
    }

    private static void wrongSteps() {
        Run run = edited("promises 28 to 33, wrong steps");
        for (String wrong : new String[] {"6", "-1", "24", "2147483647", "-2147483648"}) {
            run.due("stepKind(" + wrong + ")", Run.INDEX).due("stepNode(" + wrong + ")", Run.INDEX)
                .due("stepPrice(" + wrong + ")", Run.INDEX);
        }
        for (String wrong : new String[] {"7", "-1", "24", "2147483647", "-2147483648"}) {
            run.due("sizeAfter(" + wrong + ")", Run.INDEX).due("labelAfter(" + wrong + ", 0)", Run.INDEX)
                .due("depthAfter(" + wrong + ", 0)", Run.INDEX).due("labelAfter(1, " + wrong + ")", Run.INDEX)
                .due("depthAfter(1, " + wrong + ")", Run.INDEX);
        }
    }
}
