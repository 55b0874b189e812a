import java.util.ArrayList;
import java.util.List;
import java.util.Random;

/** All TREES of small PIECES, one by one, beside what the class says of BEST. */
public final class EnumerationTest {
    private static final String[] RULES = {"strong", "long", "stable", "step", "even", "close"};

    /** A TREE, and what it breaks by each RULE as if its WEIGHT were 1. */
    private static final class Tree {
        int first;
        int last;
        int head;
        int split = -2;
        int under = -2;
        Tree left;
        Tree right;
        int[] units = new int[6];

        int breaks(int[] weights) {
            int sum = 0;
            for (int rule = 0; rule < 6; rule++) {
                sum += weights[rule] * units[rule];
            }
            return sum;
        }

        /** Which one the document puts first of those that break as little. */
        int before(Tree that) {
            int by = Integer.compare(head, that.head);
            by = by != 0 ? by : Integer.compare(split, that.split);
            by = by != 0 ? by : Integer.compare(under, that.under);
            if (by != 0 || left == null) {
                return by;
            }
            by = left.before(that.left);
            return by != 0 ? by : right.before(that.right);
        }
    }

    private final int n;
    private final int bar;
    private final int beat;
    private final int key;
    private final int[] pitch;
    private final int[] length;
    private final int[] weights = new int[6];
    private final HeadTrees x;
    private final int order;

    private EnumerationTest(Random random) {
        order = random.nextInt(3);
        n = 1 + random.nextInt(6);
        bar = 1 + random.nextInt(6);
        beat = 1 + random.nextInt(bar);
        key = random.nextInt(12);
        pitch = random.ints(n, 40, 40 + 2 + random.nextInt(14)).toArray();
        length = random.ints(n, 1, 2 + random.nextInt(5)).toArray();
        StringBuilder text = new StringBuilder("piece bar " + bar + " beat " + beat + " key " + key);
        for (int k = 0; k < n; k++) {
            text.append(";note ").append(pitch[k]).append(" long ").append(length[k]);
        }
        for (int rule = 0; rule < 6; rule++) {
            weights[rule] = random.nextInt(3) * random.nextInt(3) * (1 + random.nextInt(10));
            text.append(";rule ").append(RULES[rule]).append(' ').append(weights[rule]);
        }
        x = Check.of(text.toString());
    }

    private int strength(int k) {
        int begin = 0;
        for (int t = 0; t < k; t++) {
            begin += length[t];
        }
        return begin % bar == 0 ? 3 : begin * 2 % bar == 0 ? 2 : begin % beat == 0 ? 1 : 0;
    }

    private int stable(int k) {
        int tone = (pitch[k] + 12 - key) % 12;
        return tone == 0 ? 2 : tone == 4 || tone == 7 ? 1 : 0;
    }

    private Tree join(Tree left, Tree right, boolean leftHead) {
        Tree tree = new Tree();
        tree.first = left.first;
        tree.last = right.last;
        tree.split = left.last;
        tree.head = leftHead ? left.head : right.head;
        tree.under = leftHead ? right.head : left.head;
        tree.left = left;
        tree.right = right;
        int h = tree.head;
        int u = tree.under;
        int[] own = {strength(u) - strength(h), length[u] - length[h], stable(u) - stable(h),
            Math.abs(pitch[u] - pitch[h]) - 2,
            Math.abs((left.last - left.first) - (right.last - right.first)), u == n - 1 ? 1 : 0};
        for (int rule = 0; rule < 6; rule++) {
            tree.units[rule] = left.units[rule] + right.units[rule] + Math.max(0, own[rule]);
        }
        return tree;
    }

    private List<Tree> all(int i, int j) {
        List<Tree> trees = new ArrayList<>();
        if (i == j) {
            Tree tree = new Tree();
            tree.first = i;
            tree.last = i;
            tree.head = i;
            trees.add(tree);
        }
        for (int s = i; s < j; s++) {
            List<Tree> rights = all(s + 1, j);
            for (Tree left : all(i, s)) {
                for (Tree right : rights) {
                    trees.add(join(left, right, true));
                    trees.add(join(left, right, false));
                }
            }
        }
        return trees;
    }

    private static Tree best(List<Tree> trees, int[] weights) {
        Tree best = null;
        for (Tree tree : trees) {
            int by = best == null ? -1 : Integer.compare(tree.breaks(weights), best.breaks(weights));
            if (by < 0 || by == 0 && tree.before(best) < 0) {
                best = tree;
            }
        }
        return best;
    }

    private void span(int i, int j) {
        List<Tree> trees = all(i, j);
        Tree best = best(trees, weights);
        int least = best.breaks(weights);
        Check.due("breaks", x.breaks(i, j), least);
        Check.due("head", x.head(i, j), best.head);
        Check.due("split", x.split(i, j), best.split);
        long ways = trees.stream().filter(t -> t.breaks(weights) == least).count();
        Check.due("ways", x.ways(i, j), ways);
        int second = -2;
        int secondBreaks = Integer.MAX_VALUE;
        for (int h = i; h <= j; h++) {
            int head = h;
            int by = trees.stream().filter(t -> t.head == head).mapToInt(t -> t.breaks(weights)).min().getAsInt();
            Check.due("breaksBy", x.breaksBy(i, j, h), by);
            if (h != best.head && by < secondBreaks) {
                second = h;
                secondBreaks = by;
            }
        }
        Check.due("second", x.second(i, j), second);
        for (int s = i; s < j; s++) {
            int split = s;
            int by = trees.stream().filter(t -> t.split == split).mapToInt(t -> t.breaks(weights)).min().getAsInt();
            Check.due("splitCost", x.splitCost(i, j, s), by - least);
        }
    }

    private int sameJoinings(Tree tree, int at) {
        if (tree.left == null) {
            return at;
        }
        int[] due = {tree.first, tree.last, tree.split, tree.head, tree.under};
        for (int what = 0; what < 5; what++) {
            Check.due("joining", x.joining(at, what), due[what]);
        }
        return sameJoinings(tree.right, sameJoinings(tree.left, at + 1));
    }

    private void weights(List<Tree> trees, int rule) {
        Tree[] bests = new Tree[100];
        int[] breaks = new int[100];
        for (int w = 0; w < 100; w++) {
            int[] other = weights.clone();
            other[rule] = w;
            bests[w] = best(trees, other);
            breaks[w] = bests[w].breaks(other);
        }
        // In another order each time: one call may leave what helps the next.
        for (int t = order; t < order + 3; t++) {
            if (t % 3 == 0) {
                firm(rule, bests);
            } else if (t % 3 == 1) {
                sways(rule, bests);
            } else {
                for (int w = 0; w < 100; w++) {
                    Check.due("swayed", x.swayed(rule, w), breaks[w]);
                }
            }
        }
    }

    private void firm(int rule, Tree[] bests) {
        int low = weights[rule];
        int high = low;
        while (low > 0 && bests[low - 1] == bests[low]) {
            low--;
        }
        while (high < 99 && bests[high + 1] == bests[high]) {
            high++;
        }
        Check.due("firm down", x.firm(rule, false), low);
        Check.due("firm up", x.firm(rule, true), high);
    }

    private void sways(int rule, Tree[] bests) {
        for (int k = 0; k < n; k++) {
            int sways = -2;
            for (int w = 99; w >= 0; w--) {
                sways = bests[w].head == k ? w : sways;
            }
            Check.due("sways", x.sways(rule, k), sways);
        }
    }

    private void run(int rule) {
        for (int i = 0; i < n; i++) {
            for (int j = i; j < n; j++) {
                span(i, j);
            }
        }
        List<Tree> trees = all(0, n - 1);
        Tree tree = best(trees, weights);
        Check.due("joinings", sameJoinings(tree, 0), x.joinings());
        for (int by = 0; by < 6; by++) {
            Check.due("breaksOf", x.breaksOf(by), weights[by] * tree.units[by]);
        }
        weights(trees, rule);
        // Only one more RULE, since an object has 512 calls.
        weights(trees, (rule + 1) % 6);
    }

    public static void main(String[] args) {
        Random random = new Random(4711);
        for (int run = 0; run < 150; run++) {
            new EnumerationTest(random).run(run % 6);
        }
        Check.end("EnumerationTest");
    }
}
