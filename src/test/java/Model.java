import java.util.ArrayList;
import java.util.HashMap;
import java.util.List;
import java.util.Map;

/**
 * The document word by word, as slow as its definitions are: cheapest mappings are found by trying pairs
 * and asking for the least cost of a mapping that keeps to what was decided before.
 */
final class Model {
    private static final int FREE = -2;
    private static final int NEVER = 1000000;

    static final class Node {
        int number;
        int kind;
        int label;
        Node parent;
        final List<Node> children = new ArrayList<>();

        boolean isAncestorOf(Node other) {
            for (Node up = other.parent; up != null; up = up.parent) {
                if (up == this) {
                    return true;
                }
            }
            return false;
        }

        void preorder(List<Node> out) {
            out.add(this);
            for (Node child : children) {
                child.preorder(out);
            }
        }

        void postorder(List<Node> out) {
            for (Node child : children) {
                child.postorder(out);
            }
            out.add(this);
        }

        List<Node> subtree() {
            List<Node> out = new ArrayList<>();
            preorder(out);
            return out;
        }

        boolean equalTo(Node other) {
            if (kind != other.kind || label != other.label || children.size() != other.children.size()) {
                return false;
            }
            for (int i = 0; i < children.size(); i++) {
                if (!children.get(i).equalTo(other.children.get(i))) {
                    return false;
                }
            }
            return true;
        }
    }

    private final List<List<Node>> trees = new ArrayList<>(List.of(new ArrayList<>(), new ArrayList<>()));
    private final int[][] prices = {{1, 1, 1}, {1, 1, 1}, {1, 1, 1}, {1, 1, 1}};
    private int movePrice = 1;
    private int[] mapping;

    String answerOf(String name, int... a) {
        try {
            return String.valueOf(answer(name, a));
        } catch (IndexOutOfBoundsException e) {
            return Run.INDEX;
        } catch (IllegalArgumentException e) {
            return Run.ARGUMENT;
        } catch (IllegalStateException e) {
            return Run.STATE;
        }
    }

    private Object answer(String name, int[] a) {
        switch (name) {
            case "addRoot": case "add": case "setLabel": case "clear": case "swapTrees": case "setPrices":
            case "setMovePrice":
                Object answer = change(name, a);
                mapping = null;
                return answer;
            case "nodes": return tree(a[0]).size();
            case "parentOf": return node(a[0], a[1]).parent == null ? -1 : node(a[0], a[1]).parent.number;
            case "kindOf": return node(a[0], a[1]).kind;
            case "labelOf": return node(a[0], a[1]).label;
            case "children": return node(a[0], a[1]).children.size();
            case "childAt": return node(a[0], a[1]).children.get(a[2]).number;
            case "inPreorder": tree(a[0]); return preorder(a[0]).get(a[1]).number;
            case "inPostorder": tree(a[0]); return postorder(a[0]).get(a[1]).number;
            case "subtreeSize": return node(a[0], a[1]).subtree().size();
            case "isKeyroot":
                Node asked = node(a[0], a[1]);
                return asked.parent == null || asked.parent.children.indexOf(asked) > 0;
            default: return compare(name, a);
        }
    }

    private Object compare(String name, int[] a) {
        switch (name) {
            case "distance": case "distanceByForests": return distance();
            case "subtreeDistance":
                return least(List.of(node(0, a[0])), List.of(node(1, a[1])), allFree(), new HashMap<>());
            case "topDownDistance": return topDown();
            case "similarity": return without() == 0 ? 1.0 : 1.0 - (double) distance() / without();
            case "pairs": return pairs();
            case "partnerOf": return chosen()[node(0, a[0]).number];
            case "canBePaired":
                int[] fixed = allFree();
                fixed[node(0, a[0]).number] = node(1, a[1]).number;
                return leastWith(fixed) == distance();
            case "areEqual": return node(0, a[0]).equalTo(node(1, a[1]));
            case "differentSubtrees": return differentSubtrees();
            case "moves": return findMoves().size();
            case "movesTo": return findMoves().getOrDefault(node(0, a[0]), none()).number;
            case "distanceWithMoves":
                int sum = distance();
                for (Map.Entry<Node, Node> move : findMoves().entrySet()) {
                    sum += movePrice - price(move.getKey(), 1) - price(move.getValue(), 0);
                }
                return sum;
            default: return script(name, a);
        }
    }

    // ---- trees and prices

    private Object change(String name, int[] a) {
        switch (name) {
            case "addRoot":
                tree(a[0]);
                index(a[1], 4);
                argument(a[2], 99);
                state(tree(a[0]).isEmpty());
                grow(a[0], a[1], a[2]);
                return Run.NOTHING;
            case "add":
                Node parent = node(a[0], a[1]);
                index(a[2], parent.children.size() + 1);
                index(a[3], 4);
                argument(a[4], 99);
                state(tree(a[0]).size() < 12);
                Node child = grow(a[0], a[3], a[4]);
                child.parent = parent;
                parent.children.add(a[2], child);
                return child.number;
            case "setLabel":
                Node node = node(a[0], a[1]);
                argument(a[2], 99);
                int label = node.label;
                node.label = a[2];
                return label;
            case "clear": tree(a[0]).clear(); return Run.NOTHING;
            case "swapTrees": trees.add(trees.remove(0)); return Run.NOTHING;
            case "setPrices":
                index(a[0], 4);
                for (int i = 1; i < 4; i++) {
                    argument(a[i], 50);
                }
                System.arraycopy(a, 1, prices[a[0]], 0, 3);
                return Run.NOTHING;
            default:
                argument(a[0], 50);
                int price = movePrice;
                movePrice = a[0];
                return price;
        }
    }

    private Node grow(int tree, int kind, int label) {
        Node node = new Node();
        node.number = trees.get(tree).size();
        node.kind = kind;
        node.label = label;
        trees.get(tree).add(node);
        return node;
    }

    private List<Node> tree(int tree) {
        index(tree, 2);
        return trees.get(tree);
    }

    private Node node(int tree, int number) {
        index(number, tree(tree).size());
        return tree(tree).get(number);
    }

    private static void index(int index, int bound) {
        if (index < 0 || index >= bound) {
            throw new IndexOutOfBoundsException();
        }
    }

    private static void argument(int value, int most) {
        if (value < 0 || value > most) {
            throw new IllegalArgumentException();
        }
    }

    private static void state(boolean holds) {
        if (!holds) {
            throw new IllegalStateException();
        }
    }

    private static Node none() {
        Node node = new Node();
        node.number = -1;
        return node;
    }

    private List<Node> preorder(int tree) {
        return trees.get(tree).isEmpty() ? new ArrayList<>() : trees.get(tree).get(0).subtree();
    }

    private List<Node> postorder(int tree) {
        List<Node> out = new ArrayList<>();
        if (!trees.get(tree).isEmpty()) {
            trees.get(tree).get(0).postorder(out);
        }
        return out;
    }

    // ---- distances: least costs of mappings in which some nodes of tree 0 are decided

    private int price(Node root, int which) {
        int sum = 0;
        for (Node node : root.subtree()) {
            sum += prices[node.kind][which];
        }
        return sum;
    }

    private int without() {
        int sum = 0;
        for (int tree = 0; tree < 2; tree++) {
            for (Node node : trees.get(tree)) {
                sum += prices[node.kind][1 - tree];
            }
        }
        return sum;
    }

    private int[] allFree() {
        int[] fixed = new int[12];
        java.util.Arrays.fill(fixed, FREE);
        return fixed;
    }

    private int distance() {
        return leastWith(allFree());
    }

    private int leastWith(int[] fixed) {
        List<Node> old = trees.get(0).isEmpty() ? List.of() : List.of(trees.get(0).get(0));
        List<Node> current = trees.get(1).isEmpty() ? List.of() : List.of(trees.get(1).get(0));
        return least(old, current, fixed, new HashMap<>());
    }

    private int least(List<Node> old, List<Node> current, int[] fixed, Map<String, Integer> known) {
        if (old.isEmpty() && current.isEmpty()) {
            return 0;
        }
        String key = key(old) + "/" + key(current);
        Integer before = known.get(key);
        if (before != null) {
            return before;
        }
        int best = NEVER;
        if (!old.isEmpty()) {
            Node a = old.get(0);
            if (fixed[a.number] < 0) {
                best = Math.min(best, prices[a.kind][1] + least(withoutFirst(old), current, fixed, known));
            }
        }
        if (!current.isEmpty()) {
            Node b = current.get(0);
            best = Math.min(best, prices[b.kind][0] + least(old, withoutFirst(current), fixed, known));
        }
        if (!old.isEmpty() && !current.isEmpty()) {
            Node a = old.get(0);
            Node b = current.get(0);
            if (a.kind == b.kind && (fixed[a.number] == FREE || fixed[a.number] == b.number)) {
                best = Math.min(best, relabelling(a, b) + least(a.children, b.children, fixed, known)
                        + least(old.subList(1, old.size()), current.subList(1, current.size()), fixed, known));
            }
        }
        known.put(key, best);
        return best;
    }

    private int relabelling(Node a, Node b) {
        return a.label == b.label ? 0 : prices[a.kind][2];
    }

    private static String key(List<Node> forest) {
        StringBuilder key = new StringBuilder();
        for (Node root : forest) {
            key.append((char) ('a' + root.number));
        }
        return key.toString();
    }

    private static List<Node> withoutFirst(List<Node> forest) {
        List<Node> out = new ArrayList<>(forest.get(0).children);
        out.addAll(forest.subList(1, forest.size()));
        return out;
    }

    private int topDown() {
        if (trees.get(0).isEmpty() || trees.get(1).isEmpty()) {
            return without();
        }
        Node a = trees.get(0).get(0);
        Node b = trees.get(1).get(0);
        return Math.min(without(), a.kind == b.kind ? topDownPaired(a, b) : NEVER);
    }

    private int topDownPaired(Node a, Node b) {
        return relabelling(a, b) + topDownChildren(a.children, b.children);
    }

    private int topDownChildren(List<Node> old, List<Node> current) {
        if (old.isEmpty() && current.isEmpty()) {
            return 0;
        }
        int best = NEVER;
        if (!old.isEmpty()) {
            best = price(old.get(0), 1) + topDownChildren(old.subList(1, old.size()), current);
        }
        if (!current.isEmpty()) {
            best = Math.min(best, price(current.get(0), 0) + topDownChildren(old, current.subList(1, current.size())));
        }
        if (!old.isEmpty() && !current.isEmpty() && old.get(0).kind == current.get(0).kind) {
            best = Math.min(best, topDownPaired(old.get(0), current.get(0))
                    + topDownChildren(old.subList(1, old.size()), current.subList(1, current.size())));
        }
        return best;
    }

    // ---- the chosen mapping

    private int[] chosen() {
        if (mapping == null) {
            int distance = distance();
            int[] fixed = allFree();
            for (Node a : preorder(0)) {
                fixed[a.number] = firstPartner(a, fixed, distance);
            }
            mapping = fixed;
        }
        return mapping;
    }

    private int firstPartner(Node a, int[] fixed, int distance) {
        for (Node b : preorder(1)) {
            fixed[a.number] = b.number;
            if (a.kind == b.kind && leastWith(fixed) == distance) {
                return b.number;
            }
        }
        return -1;
    }

    private Node partner(Node a) {
        int b = chosen()[a.number];
        return b < 0 ? null : trees.get(1).get(b);
    }

    private boolean isPartner(Node b) {
        for (Node a : trees.get(0)) {
            if (partner(a) == b) {
                return true;
            }
        }
        return false;
    }

    private int pairs() {
        int pairs = 0;
        for (Node a : trees.get(0)) {
            if (partner(a) != null) {
                pairs++;
            }
        }
        return pairs;
    }

    // ---- the script

    private List<int[]> scriptSteps() {
        List<int[]> steps = new ArrayList<>();
        for (Node a : postorder(0)) {
            if (partner(a) == null) {
                steps.add(new int[] {0, a.number, prices[a.kind][1]});
            }
        }
        for (Node a : preorder(0)) {
            if (partner(a) != null && partner(a).label != a.label) {
                steps.add(new int[] {1, a.number, prices[a.kind][2]});
            }
        }
        for (Node b : preorder(1)) {
            if (!isPartner(b)) {
                steps.add(new int[] {2, b.number, prices[b.kind][0]});
            }
        }
        return steps;
    }

    private Object script(String name, int[] a) {
        List<int[]> steps = scriptSteps();
        switch (name) {
            case "steps": return steps.size();
            case "stepKind": return steps.get(a[0])[0];
            case "stepNode": return steps.get(a[0])[1];
            case "stepPrice": return steps.get(a[0])[2];
            default:
        }
        index(a[0], steps.size() + 1);
        List<Node> forest = forestAfter(steps.subList(0, a[0]), steps);
        switch (name) {
            case "sizeAfter": return forest.size();
            case "labelAfter":
                Node node = forest.get(a[1]);
                for (int[] step : steps.subList(0, a[0])) {
                    if (step[0] == 1 && node == trees.get(0).get(step[1])) {
                        return partner(node).label;
                    }
                }
                return node.label;
            case "depthAfter":
                int depth = 0;
                for (Node other : forest) {
                    depth += other.isAncestorOf(forest.get(a[1])) ? 1 : 0;
                }
                forest.get(a[1]);
                return depth;
            default: throw new UnsupportedOperationException(name);
        }
    }

    private List<Node> forestAfter(List<int[]> done, List<int[]> steps) {
        int onOld = 0;
        for (int[] step : steps) {
            onOld += step[0] != 2 ? 1 : 0;
        }
        int tree = done.size() <= onOld ? 0 : 1;
        List<Node> forest = new ArrayList<>();
        for (Node node : preorder(tree)) {
            boolean there = tree == 0 || isPartner(node);
            for (int[] step : done) {
                if (step[1] == node.number && step[0] == (tree == 0 ? 0 : 2)) {
                    there = tree == 1;
                }
            }
            if (there) {
                forest.add(node);
            }
        }
        return forest;
    }

    // ---- equal subtrees and moves

    private int differentSubtrees() {
        List<Node> different = new ArrayList<>();
        for (List<Node> tree : trees) {
            for (Node node : tree) {
                boolean isNew = true;
                for (Node other : different) {
                    isNew &= !node.equalTo(other);
                }
                if (isNew) {
                    different.add(node);
                }
            }
        }
        return different.size();
    }

    private Map<Node, Node> findMoves() {
        Map<Node, Node> moves = new HashMap<>();
        List<Node> moved = new ArrayList<>();
        List<Node> reached = new ArrayList<>();
        for (Node a : preorder(0)) {
            boolean unpaired = true;
            for (Node node : a.subtree()) {
                unpaired &= partner(node) == null;
            }
            if (moved.contains(a) || !unpaired) {
                continue;
            }
            for (Node b : preorder(1)) {
                boolean open = a.equalTo(b);
                for (Node node : b.subtree()) {
                    open &= !isPartner(node) && !reached.contains(node);
                }
                if (open && movePrice < price(a, 1) + price(b, 0)) {
                    moves.put(a, b);
                    moved.addAll(a.subtree());
                    reached.addAll(b.subtree());
                    break;
                }
            }
        }
        return moves;
    }
}
