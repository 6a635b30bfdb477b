import java.util.ArrayList;
import java.util.List;

/**
 * The calls that grow a tree told as text: "0.5(1.3 2.4(2.4))" is a root of kind 0 with label 5 and two children,
 * of which the second has a child.
 */
final class Grow {
    private final int tree;
    private final boolean backwards;
    private final String text;
    private final List<String> calls = new ArrayList<>();
    private int at = 0;

    private Grow(int tree, String text, boolean backwards) {
        this.tree = tree;
        this.text = text;
        this.backwards = backwards;
    }

    /** The nodes are numbered in preorder. */
    static String[] tree(int tree, String text) {
        return new Grow(tree, text, false).callsOf();
    }

    /** Children are added from the last to the first, so that numbers run against preorder. */
    static String[] backwards(int tree, String text) {
        return new Grow(tree, text, true).callsOf();
    }

    static String[] both(String old, String current, String... more) {
        List<String> all = new ArrayList<>(List.of(tree(0, old)));
        all.addAll(List.of(tree(1, current)));
        all.addAll(List.of(more));
        return all.toArray(new String[0]);
    }

    /** A root with some children. */
    static String star(String root, int children, String child) {
        return root + "(" + (child + " ").repeat(children).trim() + ")";
    }

    static String chain(int nodes, String node) {
        return (node + "(").repeat(nodes - 1) + node + ")".repeat(nodes - 1);
    }

    private String[] callsOf() {
        add(read(), -1, 0);
        return calls.toArray(new String[0]);
    }

    private static final class Part {
        private String kindAndLabel;
        private final List<Part> children = new ArrayList<>();
    }

    private Part read() {
        Part part = new Part();
        int start = at;
        while (at < text.length() && " ()".indexOf(text.charAt(at)) < 0) {
            at++;
        }
        part.kindAndLabel = text.substring(start, at).replace(".", ", ");
        if (at < text.length() && text.charAt(at) == '(') {
            do {
                at++;
                part.children.add(read());
            } while (text.charAt(at) == ' ');
            at++;
        }
        return part;
    }

    private void add(Part part, int parent, int place) {
        int number = calls.size();
        calls.add(parent < 0 ? "addRoot(" + tree + ", " + part.kindAndLabel + ")"
            : "add(" + tree + ", " + parent + ", " + place + ", " + part.kindAndLabel + ")");
        int n = part.children.size();
        for (int i = 0; i < n; i++) {
            add(part.children.get(backwards ? n - 1 - i : i), number, backwards ? 0 : i);
        }
    }
}
