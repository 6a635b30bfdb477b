import java.util.Arrays;

/** A comparer of two ordered trees by least edits. */
public final class TreeComparer {
    /** There is none. */
    public static final int NONE = -1;
    /** Steps of a script. */
    public static final int DELETE = 0, RELABEL = 1, INSERT = 2;

    private static final int MOST_NODES = 12;
    private static final int KINDS = 4;
    private static final int MOST_LABEL = 99;
    private static final int MOST_PRICE = 50;
    /** Far above the cost of every mapping (24 nodes at 50 each), far below the end of int. */
    private static final int FAR = 1000000;

    private final Given given;
    private final Layout layout;
    private final KeyrootTable keyroots;
    private final ForestTable forests;
    private final TopDownTable topDown;
    private final Mapping mapping;
    private final Script script;
    private final Moves moving;
    /** Mapping, script and moves are worked out once for all questions between two changes. */
    private boolean settled;

    public TreeComparer() {
        given = new Given();
        layout = new Layout(given);
        keyroots = new KeyrootTable(layout);
        forests = new ForestTable(layout);
        topDown = new TopDownTable(layout);
        mapping = new Mapping(layout, forests);
        script = new Script(given, mapping);
        moving = new Moves(given, mapping);
        settled = false;
    }

    // ---- trees and prices

    public void addRoot(int tree, int kind, int label)
            throws IndexOutOfBoundsException, IllegalArgumentException, IllegalStateException {
        Tree grown = treeNumbered(tree);
        needIndex(kind, KINDS);
        needAtMost(label, MOST_LABEL);
        if (grown.count != 0) {
            throw new IllegalStateException("the tree is not empty");
        }
        grown.insert(NONE, 0, kind, label);
        settled = false;
    }

    public int add(int tree, int parent, int place, int kind, int label)
            throws IndexOutOfBoundsException, IllegalArgumentException, IllegalStateException {
        Tree grown = treeWith(tree, parent);
        needIndex(place, grown.childCount(parent) + 1);
        needIndex(kind, KINDS);
        needAtMost(label, MOST_LABEL);
        if (grown.count >= MOST_NODES) {
            throw new IllegalStateException("the tree is full");
        }
        grown.insert(parent, grown.spotFor(parent, place), kind, label);
        settled = false;
        return grown.count - 1;
    }

    public int setLabel(int tree, int node, int label)
            throws IndexOutOfBoundsException, IllegalArgumentException {
        Tree changed = treeWith(tree, node);
        needAtMost(label, MOST_LABEL);
        int before = changed.label[node];
        changed.label[node] = label;
        settled = false;
        return before;
    }

    public void clear(int tree) throws IndexOutOfBoundsException {
        treeNumbered(tree).count = 0;
        settled = false;
    }

    public void swapTrees() {
        Tree former = given.old;
        given.old = given.current;
        given.current = former;
        settled = false;
    }

    public void setPrices(int kind, int inserting, int deleting, int relabelling)
            throws IndexOutOfBoundsException, IllegalArgumentException {
        needIndex(kind, KINDS);
        needAtMost(inserting, MOST_PRICE);
        needAtMost(deleting, MOST_PRICE);
        needAtMost(relabelling, MOST_PRICE);
        given.inserting[kind] = inserting;
        given.deleting[kind] = deleting;
        given.relabelling[kind] = relabelling;
        settled = false;
    }

    public int setMovePrice(int price) throws IllegalArgumentException {
        needAtMost(price, MOST_PRICE);
        int before = given.movePrice;
        given.movePrice = price;
        settled = false;
        return before;
    }

    // ---- the trees as they are

    public int nodes(int tree) throws IndexOutOfBoundsException {
        return treeNumbered(tree).count;
    }

    public int parentOf(int tree, int node) throws IndexOutOfBoundsException {
        return treeWith(tree, node).parent[node];
    }

    public int kindOf(int tree, int node) throws IndexOutOfBoundsException {
        return treeWith(tree, node).kind[node];
    }

    public int labelOf(int tree, int node) throws IndexOutOfBoundsException {
        return treeWith(tree, node).label[node];
    }

    public int children(int tree, int node) throws IndexOutOfBoundsException {
        return treeWith(tree, node).childCount(node);
    }

    public int childAt(int tree, int node, int place) throws IndexOutOfBoundsException {
        Tree asked = treeWith(tree, node);
        needIndex(place, asked.childCount(node));
        return asked.nthChild(node, place);
    }

    public int inPreorder(int tree, int place) throws IndexOutOfBoundsException {
        Tree asked = treeNumbered(tree);
        needIndex(place, asked.count);
        return asked.preorder[place];
    }

    public int inPostorder(int tree, int place) throws IndexOutOfBoundsException {
        Tree asked = treeNumbered(tree);
        needIndex(place, asked.count);
        return asked.postorder[place];
    }

    public int subtreeSize(int tree, int node) throws IndexOutOfBoundsException {
        return treeWith(tree, node).size[node];
    }

    public boolean isKeyroot(int tree, int node) throws IndexOutOfBoundsException {
        return treeWith(tree, node).isKey(node);
    }

    // ---- distances

    public int distance() {
        layout.layPostorder();
        keyroots.solve();
        return keyroots.whole();
    }

    public int distanceByForests() {
        layout.layPostorder();
        forests.forget();
        return ForestTable.least(forests, 0, layout.old.count, 0, layout.current.count, 0);
    }

    public int subtreeDistance(int old, int current) throws IndexOutOfBoundsException {
        needNodes(old, current);
        layout.layPostorder();
        keyroots.solve();
        return keyroots.between(given.old.postPlace(old), given.current.postPlace(current));
    }

    public int topDownDistance() {
        layout.layPostorder();
        return topDown.solve();
    }

    public double similarity() {
        int least = distance();
        int most = layout.withoutPairs();
        if (most == 0) {
            return 1.0;
        }
        return 1.0 - (double) least / (double) most;
    }

    // ---- the chosen mapping

    public int pairs() {
        settle();
        return mapping.count;
    }

    public int partnerOf(int old) throws IndexOutOfBoundsException {
        needIndex(old, given.old.count);
        settle();
        return mapping.toNew[old];
    }

    public boolean canBePaired(int old, int current) throws IndexOutOfBoundsException {
        needNodes(old, current);
        if (given.old.kind[old] != given.current.kind[current]) {
            return false;
        }
        int least = distance();
        layout.favour(given.old.postPlace(old), given.current.postPlace(current));
        keyroots.solve();
        return keyroots.whole() + FAR == least;
    }

    // ---- the script

    public int steps() {
        settle();
        return script.count;
    }

    public int stepKind(int step) throws IndexOutOfBoundsException {
        settle();
        needIndex(step, script.count);
        return script.edit[step];
    }

    public int stepNode(int step) throws IndexOutOfBoundsException {
        settle();
        needIndex(step, script.count);
        return script.node[step];
    }

    public int stepPrice(int step) throws IndexOutOfBoundsException {
        settle();
        needIndex(step, script.count);
        return script.priceOf(step);
    }

    public int sizeAfter(int steps) throws IndexOutOfBoundsException {
        settle();
        needIndex(steps, script.count + 1);
        script.showForest(steps);
        return script.shownCount;
    }

    public int labelAfter(int steps, int place) throws IndexOutOfBoundsException {
        settle();
        needIndex(steps, script.count + 1);
        script.showForest(steps);
        needIndex(place, script.shownCount);
        return script.shownLabel(steps, script.shown[place]);
    }

    public int depthAfter(int steps, int place) throws IndexOutOfBoundsException {
        settle();
        needIndex(steps, script.count + 1);
        script.showForest(steps);
        needIndex(place, script.shownCount);
        return script.shownDepth(steps, script.shown[place]);
    }

    // ---- equal subtrees and moves

    public boolean areEqual(int old, int current) throws IndexOutOfBoundsException {
        needNodes(old, current);
        return Tree.sameSubtrees(given.old, old, given.current, current);
    }

    public int differentSubtrees() {
        Tree old = given.old;
        Tree current = given.current;
        int different = 0;
        for (int a = 0; a < old.count; a++) {
            if (!Tree.occursAmong(old, a, old, a)) {
                different++;
            }
        }
        for (int b = 0; b < current.count; b++) {
            if (!Tree.occursAmong(old, old.count, current, b) && !Tree.occursAmong(current, b, current, b)) {
                different++;
            }
        }
        return different;
    }

    public int moves() {
        settle();
        return moving.count;
    }

    public int movesTo(int old) throws IndexOutOfBoundsException {
        needIndex(old, given.old.count);
        settle();
        return moving.target[old];
    }

    public int distanceWithMoves() {
        settle();
        return distance() - moving.saved;
    }

    // ---- what the calls share

    private void settle() {
        if (settled) {
            return;
        }
        layout.layPreorderBackwards();
        forests.forget();
        mapping.choose();
        script.write();
        moving.find();
        settled = true;
    }

    private Tree treeNumbered(int tree) {
        needIndex(tree, 2);
        return tree == 0 ? given.old : given.current;
    }

    private Tree treeWith(int tree, int node) {
        Tree asked = treeNumbered(tree);
        needIndex(node, asked.count);
        return asked;
    }

    private void needNodes(int old, int current) {
        needIndex(old, given.old.count);
        needIndex(current, given.current.count);
    }

    private static void needIndex(int index, int bound) {
        if (index < 0 || index >= bound) {
            throw new IndexOutOfBoundsException("there is no such tree, node, kind, place or step");
        }
    }

    private static void needAtMost(int value, int most) {
        if (value < 0 || value > most) {
            throw new IllegalArgumentException("a label or a price is out of its range");
        }
    }

    /** The two trees and all prices: what the questions are asked about. */
    private static final class Given {
        private final int[] inserting = new int[KINDS];
        private final int[] deleting = new int[KINDS];
        private final int[] relabelling = new int[KINDS];
        private int movePrice;
        private Tree old;
        private Tree current;

        private Given() {
            Arrays.fill(inserting, 1);
            Arrays.fill(deleting, 1);
            Arrays.fill(relabelling, 1);
            movePrice = 1;
            old = new Tree();
            current = new Tree();
        }

        private int pairingPrice(int a, int b) {
            if (old.kind[a] != current.kind[b]) {
                return FAR;
            }
            return old.label[a] == current.label[b] ? 0 : relabelling[old.kind[a]];
        }
    }

    /** One tree. Preorder and parents tell its shape; the rest is measured anew after each change. */
    private static final class Tree {
        private final int[] kind = new int[MOST_NODES];
        private final int[] label = new int[MOST_NODES];
        private final int[] parent = new int[MOST_NODES];
        private final int[] preorder = new int[MOST_NODES];
        private final int[] postorder = new int[MOST_NODES];
        private final int[] prePlace = new int[MOST_NODES];
        private final int[] size = new int[MOST_NODES];
        private final int[] depth = new int[MOST_NODES];
        private int count;

        private void insert(int above, int spot, int itsKind, int itsLabel) {
            if (count >= MOST_NODES || spot < 0 || spot > count) {
                return;
            }
            for (int p = count; p > spot; p--) {
                preorder[p] = preorder[p - 1];
            }
            preorder[spot] = count;
            parent[count] = above;
            kind[count] = itsKind;
            label[count] = itsLabel;
            count++;
            measure();
        }

        private void measure() {
            for (int p = 0; p < count; p++) {
                int node = preorder[p];
                prePlace[node] = p;
                size[node] = 1;
                depth[node] = parent[node] == NONE ? 0 : depth[parent[node]] + 1;
            }
            for (int p = count - 1; p > 0; p--) {
                int node = preorder[p];
                size[parent[node]] += size[node];
            }
            for (int node = 0; node < count; node++) {
                postorder[postPlace(node)] = node;
            }
        }

        /** Left of a node in postorder are those left in preorder but for its ancestors, and its descendants. */
        private int postPlace(int node) {
            return prePlace[node] - depth[node] + size[node] - 1;
        }

        /** The place in preorder behind the subtree of a node. */
        private int endOf(int node) {
            return prePlace[node] + size[node];
        }

        private int childCount(int node) {
            int found = 0;
            for (int p = prePlace[node] + 1; p < endOf(node); p++) {
                if (parent[preorder[p]] == node) {
                    found++;
                }
            }
            return found;
        }

        private int nthChild(int node, int n) {
            int left = n;
            for (int p = prePlace[node] + 1; p < endOf(node); p++) {
                if (parent[preorder[p]] == node) {
                    if (left == 0) {
                        return preorder[p];
                    }
                    left--;
                }
            }
            return NONE;
        }

        /** Where in preorder a new child of a node comes. */
        private int spotFor(int node, int childPlace) {
            int elder = childPlace == 0 ? NONE : nthChild(node, childPlace - 1);
            return elder == NONE ? prePlace[node] + 1 : endOf(elder);
        }

        private boolean isKey(int node) {
            return parent[node] == NONE || prePlace[node] != prePlace[parent[node]] + 1;
        }

        private int subtreePrice(int node, int[] prices) {
            int sum = 0;
            for (int p = prePlace[node]; p < endOf(node); p++) {
                sum += prices[kind[preorder[p]]];
            }
            return sum;
        }

        private boolean isUnmarked(int node, int[] marks) {
            for (int p = prePlace[node]; p < endOf(node); p++) {
                if (marks[preorder[p]] != NONE) {
                    return false;
                }
            }
            return true;
        }

        /** Equal sizes all along the preorder mean equal shapes, so no recursion is needed. */
        private static boolean sameSubtrees(Tree s, int a, Tree t, int b) {
            if (s.size[a] != t.size[b]) {
                return false;
            }
            for (int k = 0; k < s.size[a]; k++) {
                int x = s.preorder[s.prePlace[a] + k];
                int y = t.preorder[t.prePlace[b] + k];
                if (s.kind[x] != t.kind[y] || s.label[x] != t.label[y] || s.size[x] != t.size[y]) {
                    return false;
                }
            }
            return true;
        }

        /** Whether one of the first nodes of s has a subtree equal to that of b in t. */
        private static boolean occursAmong(Tree s, int firstNodes, Tree t, int b) {
            for (int a = 0; a < firstNodes; a++) {
                if (sameSubtrees(s, a, t, b)) {
                    return true;
                }
            }
            return false;
        }
    }

    /** The nodes of a tree in a row where each subtree is a run that ends in its root. */
    private static final class Row {
        private final int[] node = new int[MOST_NODES];
        /** The first place of the run of the subtree. */
        private final int[] first = new int[MOST_NODES];
        private final boolean[] key = new boolean[MOST_NODES];
        /** The price of a node that is left unpaired. */
        private final int[] alone = new int[MOST_NODES];
        private final int[] aloneBefore = new int[MOST_NODES + 1];
        private int count;

        private void fill(Tree tree, boolean backwards, int[] prices) {
            count = tree.count;
            for (int p = 0; p < count; p++) {
                int x = backwards ? tree.preorder[count - 1 - p] : tree.postorder[p];
                node[p] = x;
                first[p] = p - tree.size[x] + 1;
                key[p] = tree.isKey(x);
                alone[p] = prices[tree.kind[x]];
                aloneBefore[p + 1] = aloneBefore[p] + alone[p];
            }
        }

        private int allAlone(int from, int to) {
            return aloneBefore[to] - aloneBefore[from];
        }
    }

    /** Both trees in rows of the same order, with the prices of all edits. */
    private static final class Layout {
        private final Given given;
        private final Row old = new Row();
        private final Row current = new Row();
        private final int[] pairing = new int[MOST_NODES * MOST_NODES];

        private Layout(Given given) {
            this.given = given;
        }

        private void layPostorder() {
            lay(false);
        }

        /** Backwards, preorder is a postorder too, that of the mirrored trees: the last root is the first one. */
        private void layPreorderBackwards() {
            lay(true);
        }

        private void lay(boolean backwards) {
            old.fill(given.old, backwards, given.deleting);
            current.fill(given.current, backwards, given.inserting);
            for (int p = 0; p < old.count; p++) {
                for (int q = 0; q < current.count; q++) {
                    pairing[p * MOST_NODES + q] = given.pairingPrice(old.node[p], current.node[q]);
                }
            }
        }

        /** Makes a pair so cheap that every cheapest mapping has it. */
        private void favour(int p, int q) {
            pairing[p * MOST_NODES + q] -= FAR;
        }

        private int withoutPairs() {
            return old.allAlone(0, old.count) + current.allAlone(0, current.count);
        }
    }

    /** The distances of all pairs of subtrees, pair of keyroots by pair of keyroots. */
    private static final class KeyrootTable {
        private static final int WIDTH = MOST_NODES + 1;
        private final Layout layout;
        private final int[] ofTrees = new int[MOST_NODES * MOST_NODES];
        private final int[] ofForests = new int[WIDTH * WIDTH];

        private KeyrootTable(Layout layout) {
            this.layout = layout;
        }

        private void solve() {
            Row old = layout.old;
            Row current = layout.current;
            for (int i = 0; i < old.count; i++) {
                for (int j = 0; j < current.count; j++) {
                    if (old.key[i] && current.key[j]) {
                        solveForests(i, j);
                    }
                }
            }
        }

        private void solveForests(int i, int j) {
            Row old = layout.old;
            Row current = layout.current;
            int top = old.first[i];
            int left = current.first[j];
            ofForests[0] = 0;
            for (int x = top; x <= i; x++) {
                ofForests[(x - top + 1) * WIDTH] = ofForests[(x - top) * WIDTH] + old.alone[x];
            }
            for (int y = left; y <= j; y++) {
                ofForests[y - left + 1] = ofForests[y - left] + current.alone[y];
            }
            for (int x = top; x <= i; x++) {
                for (int y = left; y <= j; y++) {
                    solveCell(top, left, x, y);
                }
            }
        }

        private void solveCell(int top, int left, int x, int y) {
            Row old = layout.old;
            Row current = layout.current;
            int cell = (x - top + 1) * WIDTH + y - left + 1;
            int pair = x * MOST_NODES + y;
            int least = Math.min(ofForests[cell - WIDTH] + old.alone[x], ofForests[cell - 1] + current.alone[y]);
            if (old.first[x] == top && current.first[y] == left) {
                least = Math.min(least, ofForests[cell - WIDTH - 1] + layout.pairing[pair]);
                ofTrees[pair] = least;
            } else {
                int rest = (old.first[x] - top) * WIDTH + current.first[y] - left;
                least = Math.min(least, ofForests[rest] + ofTrees[pair]);
            }
            ofForests[cell] = least;
        }

        private int between(int p, int q) {
            return ofTrees[p * MOST_NODES + q];
        }

        private int whole() {
            if (layout.old.count == 0 || layout.current.count == 0) {
                return layout.withoutPairs();
            }
            return between(layout.old.count - 1, layout.current.count - 1);
        }
    }

    /** The distances of pairs of forests, each a run of a row, found by recursion and kept. */
    private static final class ForestTable {
        private static final int RUNS = MOST_NODES * (MOST_NODES + 1) / 2;
        private static final int UNKNOWN = -1;
        /** Each level takes at least one node off the two forests. */
        private static final int MOST_DEPTH = 2 * MOST_NODES;
        private final Layout layout;
        private final int[] known = new int[RUNS * RUNS];

        private ForestTable(Layout layout) {
            this.layout = layout;
        }

        private void forget() {
            Arrays.fill(known, UNKNOWN);
        }

        /** The distance of the forests at places a to b - 1 of the old row and c to d - 1 of the new one. */
        private static int least(ForestTable table, int a, int b, int c, int d, int depth) {
            Row old = table.layout.old;
            Row current = table.layout.current;
            if (a >= b || c >= d || depth > MOST_DEPTH) {
                return old.allAlone(a, b) + current.allAlone(c, d);
            }
            int cell = (b * (b - 1) / 2 + a) * RUNS + d * (d - 1) / 2 + c;
            if (table.known[cell] != UNKNOWN) {
                return table.known[cell];
            }
            int x = b - 1;
            int y = d - 1;
            int found = Math.min(least(table, a, x, c, d, depth + 1) + old.alone[x],
                    least(table, a, b, c, y, depth + 1) + current.alone[y]);
            int pairing = table.layout.pairing[x * MOST_NODES + y];
            if (pairing < FAR) {
                int inside = least(table, old.first[x], x, current.first[y], y, depth + 1);
                int rest = least(table, a, old.first[x], c, current.first[y], depth + 1);
                found = Math.min(found, pairing + inside + rest);
            }
            table.known[cell] = found;
            return found;
        }
    }

    /** The costs of pairs of subtrees whose roots are paired, by alignment of their children. */
    private static final class TopDownTable {
        private static final int WIDTH = MOST_NODES + 1;
        private final Layout layout;
        private final int[] ofPaired = new int[MOST_NODES * MOST_NODES];
        private final int[] aligned = new int[WIDTH * WIDTH];
        private final int[] oldChild = new int[MOST_NODES];
        private final int[] newChild = new int[MOST_NODES];

        private TopDownTable(Layout layout) {
            this.layout = layout;
        }

        private int solve() {
            int n = layout.old.count;
            int m = layout.current.count;
            for (int p = 0; p < n; p++) {
                for (int q = 0; q < m; q++) {
                    int pair = p * MOST_NODES + q;
                    int pairing = layout.pairing[pair];
                    ofPaired[pair] = pairing < FAR ? pairing + alignChildren(p, q) : FAR;
                }
            }
            int unpaired = layout.withoutPairs();
            if (n == 0 || m == 0) {
                return unpaired;
            }
            return Math.min(unpaired, ofPaired[(n - 1) * MOST_NODES + m - 1]);
        }

        private int alignChildren(int p, int q) {
            Row old = layout.old;
            Row current = layout.current;
            int n = listChildren(old, p, oldChild);
            int m = listChildren(current, q, newChild);
            aligned[0] = 0;
            for (int i = 1; i <= n; i++) {
                aligned[i * WIDTH] = aligned[(i - 1) * WIDTH] + subtreeAlone(old, oldChild[i - 1]);
            }
            for (int j = 1; j <= m; j++) {
                aligned[j] = aligned[j - 1] + subtreeAlone(current, newChild[j - 1]);
            }
            for (int i = 1; i <= n; i++) {
                for (int j = 1; j <= m; j++) {
                    int cell = i * WIDTH + j;
                    int x = oldChild[i - 1];
                    int y = newChild[j - 1];
                    int unpaired = Math.min(aligned[cell - WIDTH] + subtreeAlone(old, x),
                            aligned[cell - 1] + subtreeAlone(current, y));
                    aligned[cell] = Math.min(unpaired, aligned[cell - WIDTH - 1] + ofPaired[x * MOST_NODES + y]);
                }
            }
            return aligned[n * WIDTH + m];
        }

        /** From the last child to the first: alignments cost the same from either end. */
        private static int listChildren(Row row, int p, int[] list) {
            int found = 0;
            int child = p - 1;
            for (int x = p - 1; x >= row.first[p]; x--) {
                if (x == child && found < list.length) {
                    list[found] = x;
                    found++;
                    child = row.first[x] - 1;
                }
            }
            return found;
        }

        private static int subtreeAlone(Row row, int p) {
            return row.allAlone(row.first[p], p + 1);
        }
    }

    /**
     * The chosen mapping. The trees lie in backwards preorder, so the nodes of tree 0 are decided from the
     * last place down. Once all places above p are decided, the places oldFrom[p] to p can be paired with
     * the places newFrom[p] to newTo[p] - 1 alone, and these with those alone. So what is still open there
     * is a distance of two forests, and one table of forests serves all decisions.
     */
    private static final class Mapping {
        private final Layout layout;
        private final ForestTable forests;
        private final int[] toNew = new int[MOST_NODES];
        private final int[] toOld = new int[MOST_NODES];
        private final int[] oldFrom = new int[MOST_NODES];
        private final int[] newFrom = new int[MOST_NODES];
        private final int[] newTo = new int[MOST_NODES];
        private int count;

        private Mapping(Layout layout, ForestTable forests) {
            this.layout = layout;
            this.forests = forests;
        }

        private void choose() {
            Arrays.fill(toNew, NONE);
            Arrays.fill(toOld, NONE);
            Arrays.fill(oldFrom, 0);
            Arrays.fill(newFrom, 0);
            Arrays.fill(newTo, layout.current.count);
            count = 0;
            for (int p = layout.old.count - 1; p >= 0; p--) {
                int q = firstPartner(p);
                if (q != NONE) {
                    pair(p, q);
                }
            }
        }

        private int firstPartner(int p) {
            int least = ForestTable.least(forests, oldFrom[p], p + 1, newFrom[p], newTo[p], 0);
            for (int q = newTo[p] - 1; q >= newFrom[p]; q--) {
                if (leastWith(p, q) == least) {
                    return q;
                }
            }
            return NONE;
        }

        /** The nodes of tree 1 before the partner cannot be paired any more: the order of pairs forbids it. */
        private int leastWith(int p, int q) {
            int pairing = layout.pairing[p * MOST_NODES + q];
            if (pairing >= FAR) {
                return FAR;
            }
            int oldFirst = layout.old.first[p];
            int newFirst = layout.current.first[q];
            int inside = ForestTable.least(forests, oldFirst, p, newFirst, q, 0);
            int rest = ForestTable.least(forests, oldFrom[p], oldFirst, newFrom[p], newFirst, 0);
            return pairing + inside + rest + layout.current.allAlone(q + 1, newTo[p]);
        }

        private void pair(int p, int q) {
            int oldFirst = layout.old.first[p];
            int newFirst = layout.current.first[q];
            toNew[layout.old.node[p]] = layout.current.node[q];
            toOld[layout.current.node[q]] = layout.old.node[p];
            count++;
            for (int x = oldFrom[p]; x < oldFirst; x++) {
                newTo[x] = newFirst;
            }
            for (int x = oldFirst; x < p; x++) {
                oldFrom[x] = oldFirst;
                newFrom[x] = newFirst;
                newTo[x] = q;
            }
        }
    }

    /** The script of the chosen mapping, and the forest that was shown last. */
    private static final class Script {
        private final Given given;
        private final Mapping mapping;
        private final int[] edit = new int[2 * MOST_NODES];
        private final int[] node = new int[2 * MOST_NODES];
        private int count;
        /** How many steps delete or relabel; up to there the forest is one of tree 0. */
        private int oldCount;
        private final boolean[] isShown = new boolean[MOST_NODES];
        private final int[] shown = new int[MOST_NODES];
        private int shownCount;

        private Script(Given given, Mapping mapping) {
            this.given = given;
            this.mapping = mapping;
        }

        private void write() {
            Tree old = given.old;
            Tree current = given.current;
            count = 0;
            for (int p = 0; p < old.count; p++) {
                if (mapping.toNew[old.postorder[p]] == NONE) {
                    writeStep(DELETE, old.postorder[p]);
                }
            }
            for (int p = 0; p < old.count; p++) {
                int b = mapping.toNew[old.preorder[p]];
                if (b != NONE && current.label[b] != old.label[old.preorder[p]]) {
                    writeStep(RELABEL, old.preorder[p]);
                }
            }
            oldCount = count;
            for (int p = 0; p < current.count; p++) {
                if (mapping.toOld[current.preorder[p]] == NONE) {
                    writeStep(INSERT, current.preorder[p]);
                }
            }
        }

        private void writeStep(int itsEdit, int itsNode) {
            if (count < edit.length) {
                edit[count] = itsEdit;
                node[count] = itsNode;
                count++;
            }
        }

        private int priceOf(int step) {
            int edited = node[step];
            if (edit[step] == INSERT) {
                return given.inserting[given.current.kind[edited]];
            }
            int kind = given.old.kind[edited];
            return edit[step] == DELETE ? given.deleting[kind] : given.relabelling[kind];
        }

        private Tree treeAfter(int steps) {
            return steps <= oldCount ? given.old : given.current;
        }

        private void showForest(int steps) {
            Tree tree = treeAfter(steps);
            boolean isOld = steps <= oldCount;
            for (int x = 0; x < tree.count; x++) {
                isShown[x] = isOld || mapping.toOld[x] != NONE;
            }
            for (int s = 0; s < steps; s++) {
                if (isOld && edit[s] == DELETE) {
                    isShown[node[s]] = false;
                } else if (!isOld && edit[s] == INSERT) {
                    isShown[node[s]] = true;
                }
            }
            shownCount = 0;
            for (int p = 0; p < tree.count; p++) {
                if (isShown[tree.preorder[p]]) {
                    shown[shownCount] = tree.preorder[p];
                    shownCount++;
                }
            }
        }

        private int shownLabel(int steps, int x) {
            if (steps > oldCount) {
                return given.current.label[x];
            }
            for (int s = 0; s < steps; s++) {
                if (edit[s] == RELABEL && node[s] == x && mapping.toNew[x] != NONE) {
                    return given.current.label[mapping.toNew[x]];
                }
            }
            return given.old.label[x];
        }

        /** In preorder all ancestors of a node come before it. */
        private int shownDepth(int steps, int x) {
            Tree tree = treeAfter(steps);
            int above = 0;
            for (int p = 0; p < tree.prePlace[x]; p++) {
                int y = tree.preorder[p];
                if (isShown[y] && tree.endOf(y) > tree.prePlace[x]) {
                    above++;
                }
            }
            return above;
        }
    }

    /** The moves of unpaired equal subtrees. */
    private static final class Moves {
        private final Given given;
        private final Mapping mapping;
        private final int[] target = new int[MOST_NODES];
        /** The nodes of tree 1 that no move may go to any more: paired ones, and those of targets. */
        private final int[] closed = new int[MOST_NODES];
        private int count;
        /** How much the distance with moves is less than the distance. */
        private int saved;

        private Moves(Given given, Mapping mapping) {
            this.given = given;
            this.mapping = mapping;
        }

        private void find() {
            Tree old = given.old;
            Arrays.fill(target, NONE);
            System.arraycopy(mapping.toOld, 0, closed, 0, MOST_NODES);
            count = 0;
            saved = 0;
            int next = 0;
            for (int p = 0; p < old.count; p++) {
                int a = old.preorder[p];
                int b = p < next ? NONE : firstTarget(a);
                if (b != NONE) {
                    move(a, b);
                    next = old.endOf(a);
                }
            }
        }

        private int firstTarget(int a) {
            if (!given.old.isUnmarked(a, mapping.toNew)) {
                return NONE;
            }
            Tree current = given.current;
            for (int p = 0; p < current.count; p++) {
                int b = current.preorder[p];
                if (current.isUnmarked(b, closed) && Tree.sameSubtrees(given.old, a, current, b)
                        && gain(a, b) > 0) {
                    return b;
                }
            }
            return NONE;
        }

        private int gain(int a, int b) {
            return given.old.subtreePrice(a, given.deleting) + given.current.subtreePrice(b, given.inserting)
                    - given.movePrice;
        }

        private void move(int a, int b) {
            Tree current = given.current;
            target[a] = b;
            count++;
            saved += gain(a, b);
            for (int p = current.prePlace[b]; p < current.endOf(b); p++) {
                closed[current.preorder[p]] = a;
            }
        }
    }
}
