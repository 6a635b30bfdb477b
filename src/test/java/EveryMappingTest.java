import java.util.ArrayList;
import java.util.List;

/** Small trees: distances and the chosen mapping against a list of all mappings there are. */
public final class EveryMappingTest {
    private static final int TREES = 1500;
    private static final int[] PRICES = {0, 0, 1, 1, 2, 3, 50};

    private final TreeComparer x = new TreeComparer();
    private final int[][] prices = new int[4][3];
    /** What the trees are, read once, since an object answers 512 calls. */
    private final int[][] parents = new int[2][];
    private final int[][] kinds = new int[2][];
    private final int[][] labels = new int[2][];
    private final int[][] order = new int[2][];
    /** Each mapping tells the partners of the nodes of tree 0, in their preorder. */
    private final List<int[]> mappings = new ArrayList<>();
    private long seed;
    private int n;
    private int m;

    private EveryMappingTest(int seed) {
        this.seed = seed * 104729L;
    }

    private int below(int bound) {
        seed = seed * 6364136223846793005L + 1442695040888963407L;
        return (int) ((seed >>> 33) % bound);
    }

    private void build() {
        int mostKinds = 1 + below(2);
        int mostLabels = 1 + below(3);
        for (int kind = 0; kind < mostKinds; kind++) {
            for (int i = 0; i < 3; i++) {
                prices[kind][i] = PRICES[below(PRICES.length)];
            }
            x.setPrices(kind, prices[kind][0], prices[kind][1], prices[kind][2]);
        }
        for (int tree = 0; tree < 2; tree++) {
            int size = below(6);
            for (int i = 0; i < size; i++) {
                if (i == 0) {
                    x.addRoot(tree, below(mostKinds), below(mostLabels));
                } else {
                    int parent = below(i);
                    x.add(tree, parent, below(x.children(tree, parent) + 1), below(mostKinds), below(mostLabels));
                }
            }
            read(tree, size);
        }
        n = order[0].length;
        m = order[1].length;
    }

    private void read(int tree, int size) {
        parents[tree] = new int[size];
        kinds[tree] = new int[size];
        labels[tree] = new int[size];
        order[tree] = new int[size];
        for (int i = 0; i < size; i++) {
            parents[tree][i] = x.parentOf(tree, i);
            kinds[tree][i] = x.kindOf(tree, i);
            labels[tree][i] = x.labelOf(tree, i);
            order[tree][i] = x.inPreorder(tree, i);
        }
    }

    private boolean isAncestor(int tree, int a, int b) {
        for (int up = parents[tree][b]; up != -1; up = parents[tree][up]) {
            if (up == a) {
                return true;
            }
        }
        return false;
    }

    private int placeOf(int tree, int node) {
        for (int place = 0; place < order[tree].length; place++) {
            if (order[tree][place] == node) {
                return place;
            }
        }
        return -1;
    }

    private void extend(int[] partners, int place) {
        if (place == n) {
            mappings.add(partners.clone());
            return;
        }
        for (int b = -1; b < m; b++) {
            if (b == -1 || fits(partners, place, b)) {
                partners[place] = b;
                extend(partners, place + 1);
            }
        }
    }

    private boolean fits(int[] partners, int place, int b) {
        int a = order[0][place];
        boolean fits = kinds[0][a] == kinds[1][b];
        for (int earlier = 0; earlier < place; earlier++) {
            int c = order[0][earlier];
            int d = partners[earlier];
            if (d != -1) {
                fits &= d != b && isAncestor(0, c, a) == isAncestor(1, d, b) && isAncestor(0, a, c) == isAncestor(1, b, d)
                    && placeOf(1, d) < placeOf(1, b);
            }
        }
        return fits;
    }

    private int costOf(int[] partners) {
        int cost = 0;
        for (int b = 0; b < m; b++) {
            cost += prices[kinds[1][b]][0];
        }
        for (int place = 0; place < n; place++) {
            int a = order[0][place];
            int b = partners[place];
            if (b == -1) {
                cost += prices[kinds[0][a]][1];
            } else {
                cost -= prices[kinds[1][b]][0];
                cost += labels[0][a] == labels[1][b] ? 0 : prices[kinds[0][a]][2];
            }
        }
        return cost;
    }

    private boolean isTopDown(int[] partners) {
        for (int place = 0; place < n; place++) {
            int b = partners[place];
            if (b != -1) {
                int above = parents[0][order[0][place]];
                int due = above == -1 ? -1 : partners[placeOf(0, above)];
                if (due != parents[1][b] || above != -1 && due == -1) {
                    return false;
                }
            }
        }
        return true;
    }

    private void check(int number) {
        String about = "trees " + number;
        build();
        extend(new int[n], 0);
        int least = Integer.MAX_VALUE;
        int leastTopDown = Integer.MAX_VALUE;
        for (int[] partners : mappings) {
            least = Math.min(least, costOf(partners));
            leastTopDown = isTopDown(partners) ? Math.min(leastTopDown, costOf(partners)) : leastTopDown;
        }
        Run.compare(about, "distance()", "" + x.distance(), "" + least);
        Run.compare(about, "distanceByForests()", "" + x.distanceByForests(), "" + least);
        Run.compare(about, "topDownDistance()", "" + x.topDownDistance(), "" + leastTopDown);
        List<int[]> cheapest = new ArrayList<>();
        for (int[] partners : mappings) {
            if (costOf(partners) == least) {
                cheapest.add(partners);
            }
        }
        for (int place = 0; place < n; place++) {
            checkPairs(about, cheapest, place);
        }
        for (int place = 0; place < n; place++) {
            int due = chosenPartner(cheapest, place);
            int at = place;
            cheapest.removeIf(partners -> partners[at] != due);
            int a = order[0][place];
            Run.compare(about, "partnerOf(" + a + ")", "" + x.partnerOf(a), "" + due);
        }
    }

    private void checkPairs(String about, List<int[]> cheapest, int place) {
        for (int b = 0; b < m; b++) {
            boolean due = false;
            for (int[] partners : cheapest) {
                due |= partners[place] == b;
            }
            int a = order[0][place];
            Run.compare(about, "canBePaired(" + a + "," + b + ")", "" + x.canBePaired(a, b), "" + due);
        }
    }

    private int chosenPartner(List<int[]> cheapest, int place) {
        for (int p = 0; p < m; p++) {
            for (int[] partners : cheapest) {
                if (partners[place] == order[1][p]) {
                    return order[1][p];
                }
            }
        }
        return -1;
    }

    public static void main(String[] args) {
        for (int number = 0; number < TREES; number++) {
            new EveryMappingTest(number).check(number);
        }
        Run.end("EveryMappingTest");
    }
}
