/**
 * The ranges of all arguments: each value of a range is taken, and those below and above it, next to it and far
 * away, are refused with the exception that the promise names. The bounds are told by hand.
 */
public final class RangesTest {
    private static final String ANY = "an answer";

    private final String about;
    private final String[] before;
    /** Of each tree, the number of children of each node. */
    private final int[][] children;
    /** The sizes of the forests after 0, 1, 2 .. steps. */
    private final int[] sizes;

    private RangesTest(String about, String[] before, int[] oldChildren, int[] newChildren, int... sizes) {
        this.about = about;
        this.before = before;
        this.children = new int[][] {oldChildren, newChildren};
        this.sizes = sizes;
    }

    private static final int[] NO_NODES = {};
    private static final int[] FIVE = {2, 2, 0, 0, 0};
    private static final int[] THREE = {1, 1, 0};
    private static final int[] STAR = {11, 0, 0, 0, 0, 0, 0, 0, 0, 0, 0, 0};
    private static final int[] CHAIN = {1, 1, 1, 1, 1, 1, 1, 1, 1, 1, 1, 0};

    /** Tree 0 is 0(1(2 3) 4) with numbers 0(1(3 4) 2), tree 1 is 0(1(2)); roots and nodes 1 are paired. */
    private static String[] small(String... more) {
        String[] calls = {"addRoot(0, 0, 1)", "add(0, 0, 0, 1, 2)", "add(0, 0, 1, 2, 3)", "add(0, 1, 0, 3, 4)",
            "add(0, 1, 1, 0, 5)", "addRoot(1, 0, 1)", "add(1, 0, 0, 1, 2)", "add(1, 1, 0, 2, 3)"};
        String[] all = java.util.Arrays.copyOf(calls, calls.length + more.length);
        System.arraycopy(more, 0, all, calls.length, more.length);
        return all;
    }

    public static void main(String[] args) {
        String[] full = Grow.both(Grow.star("0.0", 11, "0.0"), Grow.chain(12, "1.0"));
        RangesTest[] all = {
            new RangesTest("empty trees", new String[0], NO_NODES, NO_NODES, 0),
            new RangesTest("trees of 5 and 3 nodes", small(), FIVE, THREE, 5, 4, 3, 2, 3),
            new RangesTest("trees of 3 and 5 nodes", small("swapTrees()"), THREE, FIVE, 3, 2, 3, 4, 5),
            new RangesTest("tree 0 cleared", small("clear(0)"), NO_NODES, THREE, 0, 1, 2, 3),
            new RangesTest("tree 1 cleared", small("clear(1)"), FIVE, NO_NODES, 5, 4, 3, 2, 1, 0),
            new RangesTest("full trees", full, STAR, CHAIN,
                12, 11, 10, 9, 8, 7, 6, 5, 4, 3, 2, 1, 0, 1, 2, 3, 4, 5, 6, 7, 8, 9, 10, 11, 12)};
        for (RangesTest test : all) {
            test.trees();
            test.nodes();
            test.places();
            test.pairsOfNodes();
            test.steps();
            test.kindsLabelsAndPrices();
        }
        Run.end("RangesTest");
    }

    /** Replaces the ? of a call by the values from least to greatest, and by some beyond. */
    private void range(String call, int least, int greatest, String taken, String refused) {
        for (int value = least; value <= greatest; value++) {
            String asked = call.replace("?", "" + value);
            String answer = Run.answerAfter(before, asked);
            boolean fine = taken.equals(ANY) ? !answer.startsWith("throws.") : answer.equals(taken);
            Run.compare(about, asked, fine ? taken : answer, taken);
        }
        int[] beyond = {least - 1, greatest + 1, least - 12, greatest + 12, least - 100, greatest + 100, -65536 + least,
            65536 + least, Integer.MIN_VALUE, Integer.MIN_VALUE + 1, Integer.MAX_VALUE - 1, Integer.MAX_VALUE};
        for (int value : beyond) {
            new Run(about).after(before).due(call.replace("?", "" + value), refused);
        }
    }

    private void index(String call, int bound) {
        range(call, 0, bound - 1, ANY, Run.INDEX);
    }

    private boolean isFull(int tree) {
        return children[tree].length == 12;
    }

    private String growing(int tree) {
        return isFull(tree) ? Run.STATE : ANY;
    }

    /** There are trees 0 and 1 alone. */
    private void trees() {
        index("nodes(?)", 2);
        index("clear(?)", 2);
        if (children[0].length == 0 && children[1].length == 0) {
            index("addRoot(?, 0, 0)", 2);
        }
        if (children[0].length == 0 || children[1].length == 0) {
            return;
        }
        range("addRoot(?, 0, 0)", 0, 1, Run.STATE, Run.INDEX);
        range("add(?, 0, 0, 0, 0)", 0, 1, growing(0), Run.INDEX);
        for (String call : new String[] {"setLabel(?, 0, 0)", "parentOf(?, 0)", "kindOf(?, 0)", "labelOf(?, 0)",
            "children(?, 0)", "childAt(?, 0, 0)", "inPreorder(?, 0)", "inPostorder(?, 0)", "subtreeSize(?, 0)",
            "isKeyroot(?, 0)"}) {
            index(call, 2);
        }
    }

    /** A tree has as many nodes as were added to it, whatever the other tree has. */
    private void nodes() {
        for (int tree = 0; tree < 2; tree++) {
            for (String method : new String[] {"parentOf", "kindOf", "labelOf", "children", "subtreeSize", "isKeyroot",
                "inPreorder", "inPostorder"}) {
                index(method + "(" + tree + ", ?)", children[tree].length);
            }
            index("setLabel(" + tree + ", ?, 0)", children[tree].length);
            range("add(" + tree + ", ?, 0, 0, 0)", 0, children[tree].length - 1, growing(tree), Run.INDEX);
        }
        index("partnerOf(?)", children[0].length);
        index("movesTo(?)", children[0].length);
    }

    /** A child is asked for by a place below the number of children, and added at one up to it. */
    private void places() {
        for (int tree = 0; tree < 2; tree++) {
            for (int node = 0; node < children[tree].length; node++) {
                index("childAt(" + tree + ", " + node + ", ?)", children[tree][node]);
                range("add(" + tree + ", " + node + ", ?, 0, 0)", 0, children[tree][node], growing(tree), Run.INDEX);
            }
        }
    }

    private void pairsOfNodes() {
        for (String method : new String[] {"subtreeDistance", "canBePaired", "areEqual"}) {
            boolean anEmptyOne = children[0].length == 0 || children[1].length == 0;
            index(method + "(?, 0)", anEmptyOne ? 0 : children[0].length);
            index(method + "(0, ?)", anEmptyOne ? 0 : children[1].length);
        }
    }

    /** There are forests after 0 steps up to all of them, one more than there are steps. */
    private void steps() {
        for (String method : new String[] {"stepKind", "stepNode", "stepPrice"}) {
            index(method + "(?)", sizes.length - 1);
        }
        index("sizeAfter(?)", sizes.length);
        for (int n = 0; n < sizes.length; n++) {
            Run.compare(about, "sizeAfter(" + n + ")", Run.answerAfter(before, "sizeAfter(" + n + ")"), "" + sizes[n]);
            index("labelAfter(" + n + ", ?)", sizes[n]);
            index("depthAfter(" + n + ", ?)", sizes[n]);
        }
        for (int n : new int[] {-1, sizes.length, Integer.MIN_VALUE, Integer.MAX_VALUE}) {
            index("labelAfter(" + n + ", ?)", 0);
            index("depthAfter(" + n + ", ?)", 0);
        }
    }

    private void kindsLabelsAndPrices() {
        for (int tree = 0; tree < 2; tree++) {
            String root = "addRoot(" + tree + ", ";
            String child = "add(" + tree + ", 0, 0, ";
            String taken = children[tree].length == 0 ? ANY : Run.STATE;
            range(root + "?, 0)", 0, 3, taken, Run.INDEX);
            range(root + "0, ?)", 0, 99, taken, Run.ARGUMENT);
            if (children[tree].length > 0) {
                range(child + "?, 0)", 0, 3, growing(tree), Run.INDEX);
                range(child + "0, ?)", 0, 99, growing(tree), Run.ARGUMENT);
                range("setLabel(" + tree + ", 0, ?)", 0, 99, ANY, Run.ARGUMENT);
            }
        }
        index("setPrices(?, 0, 0, 0)", 4);
        for (int kind = 0; kind < 4; kind++) {
            for (String rest : new String[] {", ?, 9, 9)", ", 9, ?, 9)", ", 9, 9, ?)"}) {
                range("setPrices(" + kind + rest, 0, 50, ANY, Run.ARGUMENT);
            }
        }
        range("setMovePrice(?)", 0, 50, ANY, Run.ARGUMENT);
    }
}
