import java.util.ArrayList;
import java.util.List;
import java.util.NoSuchElementException;
import java.util.regex.Matcher;
import java.util.regex.Pattern;

/**
 * The document once more, word by word and as slow as it likes: trees are objects, BEST looks at
 * each SPLIT and each UNDER, other WEIGHTS are tried one by one. RandomRunsTest holds the class
 * beside it. It shares nothing with the class.
 */
final class Model {
    static final int NONE = -1;

    /** A part of a TREE. */
    static final class Node {
        int first;
        int last;
        int head;
        int split = -2;
        int under = -2;
        int breaks;
        Node left;
        Node right;

        boolean same(Node that, int by) {
            if (head + by != that.head || first + by != that.first || last + by != that.last) {
                return false;
            }
            if (left == null) {
                return true;
            }
            return split + by == that.split && left.same(that.left, by) && right.same(that.right, by);
        }

        Node copy() {
            Node n = new Node();
            n.first = first;
            n.last = last;
            n.head = head;
            n.split = split;
            n.under = under;
            n.left = left == null ? null : left.copy();
            n.right = right == null ? null : right.copy();
            return n;
        }
    }

    static final class Piece {
        int bar;
        int beat;
        int key;
        List<Integer> pitch = new ArrayList<>();
        List<Integer> length = new ArrayList<>();
        int[] weight = new int[6];

        Piece copy() {
            Piece p = new Piece();
            p.bar = bar;
            p.beat = beat;
            p.key = key;
            p.pitch = new ArrayList<>(pitch);
            p.length = new ArrayList<>(length);
            p.weight = weight.clone();
            return p;
        }

        int n() {
            return pitch.size();
        }

        int begin(int k) {
            int sum = 0;
            for (int t = 0; t < k; t++) {
                sum += length.get(t);
            }
            return sum;
        }

        int strength(int k) {
            int b = begin(k);
            return b % bar == 0 ? 3 : 2 * b % bar == 0 ? 2 : b % beat == 0 ? 1 : 0;
        }

        int stable(int k) {
            int tone = ((pitch.get(k) - key) % 12 + 12) % 12;
            return tone == 0 ? 2 : tone == 4 || tone == 7 ? 1 : 0;
        }

        int breaks(int rule, int head, int under, int left, int right) {
            int by = 0;
            if (rule == 0) {
                by = strength(under) - strength(head);
            } else if (rule == 1) {
                by = length.get(under) - length.get(head);
            } else if (rule == 2) {
                by = stable(under) - stable(head);
            } else if (rule == 3) {
                by = Math.abs(pitch.get(under) - pitch.get(head)) - 2;
            } else if (rule == 4) {
                by = Math.abs(left - right);
            } else if (under == n() - 1) {
                by = 1;
            }
            return Math.max(0, by) * weight[rule];
        }

        int breaks(int head, int under, int left, int right) {
            int sum = 0;
            for (int rule = 0; rule < 6; rule++) {
                sum += breaks(rule, head, under, left, right);
            }
            return sum;
        }
    }

    /** BEST of every SPAN with every HEAD, and how many TREES break as little. */
    static final class Best {
        final Piece piece;
        final int[][] joint;
        final Node[] best;
        final long[] ways;
        static final long CAP = 1_000_000_000_000L;

        Best(Piece piece) {
            this.piece = piece;
            int n = piece.n();
            joint = new int[n][n];
            best = new Node[id(n, 0, 0)];
            ways = new long[id(n, 0, 0)];
            for (int h = 0; h < n; h++) {
                for (int u = 0; u < n; u++) {
                    joint[h][u] = piece.breaks(h, u, 1, 1);
                }
            }
            for (int size = 1; size <= n; size++) {
                for (int i = 0; i + size <= n; i++) {
                    for (int h = i; h < i + size; h++) {
                        find(i, i + size - 1, h);
                    }
                }
            }
        }

        static int id(int i, int j, int h) {
            return (i * 32 + j) * 32 + h;
        }

        static long add(long a, long b) {
            return Math.min(CAP, a + b);
        }

        static long times(long a, long b) {
            return a > CAP / b ? CAP : Math.min(CAP, a * b);
        }

        private void find(int i, int j, int h) {
            Node node = new Node();
            node.first = i;
            node.last = j;
            node.head = h;
            long count = 1;
            if (i < j) {
                count = 0;
                node.breaks = Integer.MAX_VALUE;
                for (int s = i; s < j; s++) {
                    int uneven = piece.weight[4] * Math.abs((s - i + 1) - (j - s));
                    int from = h <= s ? s + 1 : i;
                    int to = h <= s ? j : s;
                    for (int u = from; u <= to; u++) {
                        int l = id(i, s, h <= s ? h : u);
                        int r = id(s + 1, j, h <= s ? u : h);
                        int sum = best[l].breaks + best[r].breaks + joint[h][u] + uneven;
                        if (sum < node.breaks) {
                            node.breaks = sum;
                            node.split = s;
                            node.under = u;
                            node.left = best[l];
                            node.right = best[r];
                            count = 0;
                        }
                        if (sum == node.breaks) {
                            count = add(count, times(ways[l], ways[r]));
                        }
                    }
                }
            }
            best[id(i, j, h)] = node;
            ways[id(i, j, h)] = count;
        }

        Node with(int i, int j, int h) {
            return best[id(i, j, h)];
        }

        Node of(int i, int j) {
            Node least = with(i, j, i);
            for (int h = i + 1; h <= j; h++) {
                if (with(i, j, h).breaks < least.breaks) {
                    least = with(i, j, h);
                }
            }
            return least;
        }

        long waysOf(int i, int j) {
            long sum = 0;
            for (int h = i; h <= j; h++) {
                if (with(i, j, h).breaks == of(i, j).breaks) {
                    sum = add(sum, ways[id(i, j, h)]);
                }
            }
            return sum;
        }

        Node tree() {
            return of(0, piece.n() - 1);
        }
    }

    private final StringBuilder tape = new StringBuilder();
    private Piece piece = null;
    private Best best = null;
    private final List<Piece> past = new ArrayList<>();
    private Node kept = null;
    private int trouble = 0;
    private int fault = 0;
    private int place = 0;

    // ---- helpers

    private int no(int number) {
        trouble = number;
        return NONE;
    }

    private int yes(int answer) {
        trouble = 0;
        return answer;
    }

    private Best best() {
        if (best == null) {
            best = new Best(piece);
        }
        return best;
    }

    private Node tree() {
        return best().tree();
    }

    private int n() {
        return piece == null ? 0 : piece.n();
    }

    private boolean isNote(int k) {
        return 0 <= k && k < n();
    }

    private boolean isSpan(long i, long j) {
        return 0 <= i && i <= j && j < n();
    }

    private boolean isRule(int rule) {
        return piece != null && 0 <= rule && rule < 6;
    }

    private static void parts(Node node, int depth, List<Node> nodes, List<Integer> depths) {
        nodes.add(node);
        depths.add(depth);
        if (node.left != null) {
            parts(node.left, depth + 1, nodes, depths);
            parts(node.right, depth + 1, nodes, depths);
        }
    }

    private static List<Node> joiningsOf(Node tree) {
        List<Node> nodes = new ArrayList<>();
        parts(tree, 0, nodes, new ArrayList<>());
        nodes.removeIf(node -> node.left == null);
        return nodes;
    }

    private static int depthOf(Node tree, Node part) {
        List<Node> nodes = new ArrayList<>();
        List<Integer> depths = new ArrayList<>();
        parts(tree, 0, nodes, depths);
        return depths.get(nodes.indexOf(part));
    }

    private static int deepestOf(Node tree) {
        return tree.left == null ? 0 : 1 + Math.max(deepestOf(tree.left), deepestOf(tree.right));
    }

    private static void levelOf(Node node, int d, List<Node> level) {
        if (d == 0 || node.left == null) {
            level.add(node);
        } else {
            levelOf(node.left, d - 1, level);
            levelOf(node.right, d - 1, level);
        }
    }

    private static List<Node> levelOf(Node tree, int d) {
        List<Node> level = new ArrayList<>();
        levelOf(tree, d, level);
        return level;
    }

    private static int rankOf(Node tree, int k) {
        for (int d = 0; d <= deepestOf(tree); d++) {
            for (Node part : levelOf(tree, d)) {
                if (part.head == k) {
                    return d;
                }
            }
        }
        throw new AssertionError();
    }

    private Node greatest(int k) {
        Node found = null;
        List<Node> nodes = new ArrayList<>();
        parts(tree(), 0, nodes, new ArrayList<>());
        for (Node part : nodes) {
            if (part.head == k && (found == null || part.last - part.first > found.last - found.first)) {
                found = part;
            }
        }
        return found;
    }

    private List<Integer> directlyUnder(int k) {
        List<Integer> found = new ArrayList<>();
        for (Node part : joiningsOf(tree())) {
            if (part.head == k) {
                found.add(part.under);
            }
        }
        return found;
    }

    private int allUnder(int k) {
        int sum = 0;
        for (int u : directlyUnder(k)) {
            sum += 1 + allUnder(u);
        }
        return sum;
    }

    private List<Integer> melody(int d) {
        List<Integer> pitches = new ArrayList<>();
        for (Node part : levelOf(tree(), d)) {
            pitches.add(piece.pitch.get(part.head));
        }
        return pitches;
    }

    private static List<Integer> steps(List<Integer> pitches) {
        List<Integer> steps = new ArrayList<>();
        for (int t = 1; t < pitches.size(); t++) {
            steps.add(pitches.get(t) - pitches.get(t - 1));
        }
        return steps;
    }

    // ---- the text

    private static final class Faulty extends Exception {
        private static final long serialVersionUID = 1L;
        final int number;
        final int place;

        Faulty(int number, int place) {
            this.number = number;
            this.place = place;
        }
    }

    private static final Pattern TOKEN = Pattern.compile(" *(?:([a-z]+)|([0-9]+)|(;))");

    /** TOKENS and their places; behind the last one that is one, "?" or at the end "". */
    private static void tokens(String text, List<String> tokens, List<Integer> places) {
        Matcher m = TOKEN.matcher(text);
        int from = 0;
        while (m.find(from) && m.start() == from) {
            String token = m.group().trim();
            if (m.group(1) != null && token.length() > 6 || m.group(2) != null && token.length() > 2) {
                tokens.add("?");
                places.add(m.end() - token.length());
                return;
            }
            tokens.add(token);
            places.add(m.end() - token.length());
            from = m.end();
        }
        while (from < text.length() && text.charAt(from) == ' ') {
            from++;
        }
        tokens.add(from == text.length() ? "" : "?");
        places.add(from);
    }

    private static Piece parse(String text) throws Faulty {
        List<String> t = new ArrayList<>();
        List<Integer> at = new ArrayList<>();
        tokens(text, t, at);
        Piece p = null;
        List<String> told = new ArrayList<>();
        List<String> names = List.of("strong", "long", "stable", "step", "even", "close");
        int c = 0;
        while (true) {
            String word = t.get(c);
            if (!List.of("piece", "note", "rule").contains(word)) {
                throw new Faulty(1, at.get(c));
            }
            if (word.equals("piece") && p != null) {
                throw new Faulty(3, at.get(c));
            }
            if (word.equals("note") && p != null && p.n() == 24) {
                throw new Faulty(4, at.get(c));
            }
            if (!word.equals("piece") && p == null) {
                throw new Faulty(5, at.get(c));
            }
            String[] form = word.equals("piece") ? new String[] {"bar", "1", "beat", "1", "key", "1"}
                    : word.equals("note") ? new String[] {"1", "long", "1"} : new String[] {"name", "1"};
            List<Integer> wholes = new ArrayList<>();
            String name = "";
            for (String due : form) {
                c++;
                String token = t.get(c);
                if (due.equals("1")) {
                    if (!token.matches("[0-9]+")) {
                        throw new Faulty(1, at.get(c));
                    }
                    int v = Integer.parseInt(token);
                    int w = wholes.size();
                    int low = word.equals("piece") ? (w < 2 ? 1 : 0) : word.equals("note") ? w : 0;
                    int high = word.equals("piece") ? (w == 0 ? 64 : w == 1 ? wholes.get(0) : 11)
                            : word.equals("note") ? (w == 0 ? 99 : 64) : 99;
                    if (v < low || v > high) {
                        throw new Faulty(2, at.get(c));
                    }
                    wholes.add(v);
                } else if (due.equals("name")) {
                    if (!names.contains(token)) {
                        throw new Faulty(1, at.get(c));
                    }
                    if (told.contains(token)) {
                        throw new Faulty(3, at.get(c));
                    }
                    told.add(token);
                    name = token;
                } else if (!token.equals(due)) {
                    throw new Faulty(1, at.get(c));
                }
            }
            if (word.equals("piece")) {
                p = new Piece();
                p.bar = wholes.get(0);
                p.beat = wholes.get(1);
                p.key = wholes.get(2);
            } else if (word.equals("note")) {
                p.pitch.add(wholes.get(0));
                p.length.add(wholes.get(1));
            } else {
                p.weight[names.indexOf(name)] = wholes.get(0);
            }
            c++;
            if (t.get(c).isEmpty()) {
                if (p.n() == 0) {
                    throw new Faulty(5, at.get(c));
                }
                return p;
            }
            if (!t.get(c).equals(";")) {
                throw new Faulty(1, at.get(c));
            }
            c++;
        }
    }

    int feed(int a, int b, int c, int d, int e) {
        if (tape.length() + 20 > 700) {
            return NONE;
        }
        for (int number : new int[] {a, b, c, d, e}) {
            for (int t = 3; t >= 0; t--) {
                tape.append((char) (number >>> 8 * t & 255));
            }
        }
        return tape.length();
    }

    int piece(int n) {
        if (n < 0 || n > tape.length()) {
            return no(2);
        }
        String text = tape.substring(0, n);
        tape.setLength(0);
        try {
            piece = parse(text);
        } catch (Faulty f) {
            fault = f.number;
            place = f.place;
            return no(4);
        }
        fault = 0;
        best = null;
        kept = null;
        past.clear();
        return yes(piece.n());
    }

    int fault() {
        return fault;
    }

    int where() {
        return trouble == 4 ? place : NONE;
    }

    int about(int what) {
        if (piece == null || what < 0 || what > 5) {
            return no(1);
        }
        int weights = 0;
        for (int w : piece.weight) {
            weights += w > 0 ? 1 : 0;
        }
        return yes(new int[] {piece.bar, piece.beat, piece.key, n(), piece.begin(n()), weights}[what]);
    }

    int note(int k, int what) {
        if (!isNote(k) || what < 0 || what > 5) {
            return no(1);
        }
        return yes(new int[] {piece.pitch.get(k), piece.length.get(k), piece.begin(k),
            piece.strength(k), piece.stable(k), what == 5 ? rankOf(tree(), k) : 0}[what]);
    }

    int weight(int rule) {
        return isRule(rule) ? yes(piece.weight[rule]) : no(1);
    }

    // ---- spans

    int breaks(int i, int j) {
        return isSpan(i, j) ? yes(best().of(i, j).breaks) : no(1);
    }

    int head(int i, int j) {
        return isSpan(i, j) ? yes(best().of(i, j).head) : no(1);
    }

    int split(int i, int j) {
        return isSpan(i, j) ? yes(best().of(i, j).split) : no(1);
    }

    int breaksBy(int i, int j, int head) {
        return isSpan(i, j) && i <= head && head <= j ? yes(best().with(i, j, head).breaks) : no(1);
    }

    long ways(int i, int j) {
        if (!isSpan(i, j)) {
            return no(1);
        }
        yes(0);
        return best().waysOf(i, j);
    }

    int splitCost(int i, int j, int split) {
        if (!isSpan(i, j) || split < i || split >= j) {
            return no(1);
        }
        int least = Integer.MAX_VALUE;
        for (int l = i; l <= split; l++) {
            for (int r = split + 1; r <= j; r++) {
                int both = best().with(i, split, l).breaks + best().with(split + 1, j, r).breaks;
                int joint = Math.min(piece.breaks(l, r, split - i + 1, j - split),
                        piece.breaks(r, l, split - i + 1, j - split));
                least = Math.min(least, both + joint);
            }
        }
        return yes(least - best().of(i, j).breaks);
    }

    int second(int i, int j) {
        if (!isSpan(i, j)) {
            return no(1);
        }
        int found = -2;
        for (int h = j; h >= i; h--) {
            if (h != best().of(i, j).head
                    && (found == -2 || best().with(i, j, h).breaks <= best().with(i, j, found).breaks)) {
                found = h;
            }
        }
        return yes(found);
    }

    int broken(int rule, int head, int under, int left, int right) {
        if (!isRule(rule) || !isNote(head) || !isNote(under) || head == under) {
            return no(1);
        }
        if (left < 1 || left > 23 || right < 1 || right > 23) {
            return no(2);
        }
        return yes(piece.breaks(rule, head, under, left, right));
    }

    // ---- the tree

    int joinings() {
        return piece == null ? no(1) : yes(joiningsOf(tree()).size());
    }

    int joining(int i, int what) {
        if (piece == null || i < 0 || i >= n() - 1 || what < 0 || what > 6) {
            return no(1);
        }
        Node node = joiningsOf(tree()).get(i);
        int alone = piece.breaks(node.head, node.under, node.split - node.first + 1, node.last - node.split);
        return yes(new int[] {node.first, node.last, node.split, node.head, node.under, alone,
            depthOf(tree(), node)}[what]);
    }

    private static int sumOf(Piece piece, Node tree, int rule) {
        int sum = 0;
        for (Node node : joiningsOf(tree)) {
            sum += piece.breaks(rule, node.head, node.under, node.split - node.first + 1, node.last - node.split);
        }
        return sum;
    }

    int breaksOf(int rule) {
        return isRule(rule) ? yes(sumOf(piece, tree(), rule)) : no(1);
    }

    int deepest() {
        return piece == null ? no(1) : yes(deepestOf(tree()));
    }

    private int noLevel(int d) {
        return piece == null ? 1 : d < 0 || d > deepestOf(tree()) ? 2 : 0;
    }

    int level(int d) {
        return noLevel(d) != 0 ? no(noLevel(d)) : yes(levelOf(tree(), d).size());
    }

    int levelNote(int d, int k, int what) {
        if (noLevel(d) != 0) {
            return no(noLevel(d));
        }
        List<Node> level = levelOf(tree(), d);
        if (k < 0 || k >= level.size() || what < 0 || what > 2) {
            return no(1);
        }
        Node part = level.get(k);
        return yes(new int[] {part.head, piece.begin(part.first),
            piece.begin(part.last + 1) - piece.begin(part.first)}[what]);
    }

    int path(int d) {
        return noLevel(d) != 0 ? no(noLevel(d))
                : yes(steps(melody(d)).stream().mapToInt(Math::abs).sum());
    }

    int reach(int k, int what) {
        if (!isNote(k) || what < 0 || what > 2) {
            return no(1);
        }
        int over = -2;
        for (Node node : joiningsOf(tree())) {
            if (node.under == k) {
                over = node.head;
            }
        }
        return yes(new int[] {greatest(k).first, greatest(k).last, over}[what]);
    }

    int climax(int d) {
        if (noLevel(d) != 0) {
            return no(noLevel(d));
        }
        List<Integer> melody = melody(d);
        int highest = melody.stream().mapToInt(v -> v).max().getAsInt();
        return yes(levelOf(tree(), d).get(melody.indexOf(highest)).head);
    }

    int widest(int d) {
        return noLevel(d) != 0 ? no(noLevel(d))
                : yes(steps(melody(d)).stream().mapToInt(Math::abs).max().orElse(0));
    }

    int echo(int d, int e) {
        if (noLevel(d) != 0 || noLevel(e) != 0) {
            return no(Math.max(noLevel(d), noLevel(e)));
        }
        List<Integer> one = melody(d);
        List<Integer> two = melody(e);
        int places = 0;
        for (int from = 0; from + one.size() <= two.size(); from++) {
            places += steps(two.subList(from, from + one.size())).equals(steps(one)) ? 1 : 0;
        }
        return yes(places);
    }

    int over(int k, int other) {
        if (!isNote(k) || !isNote(other)) {
            return no(1);
        }
        Node part = tree();
        while (part.left != null) {
            if (Math.max(k, other) <= part.split) {
                part = part.left;
            } else if (Math.min(k, other) > part.split) {
                part = part.right;
            } else {
                break;
            }
        }
        return yes(part.head);
    }

    int under(int k) {
        return isNote(k) ? yes(allUnder(k)) : no(1);
    }

    // ---- by other weights

    private Node treeBy(int rule, int weight) {
        Piece changed = piece.copy();
        changed.weight[rule] = weight;
        return new Best(changed).tree();
    }

    int firm(int rule, boolean upper) {
        if (!isRule(rule)) {
            return no(1);
        }
        int by = upper ? 1 : -1;
        int weight = piece.weight[rule];
        while (weight + by >= 0 && weight + by <= 99 && treeBy(rule, weight + by).same(tree(), 0)) {
            weight += by;
        }
        return yes(weight);
    }

    int sways(int rule, int k) {
        if (!isRule(rule) || !isNote(k)) {
            return no(1);
        }
        for (int weight = 0; weight <= 99; weight++) {
            if (treeBy(rule, weight).head == k) {
                return yes(weight);
            }
        }
        return yes(-2);
    }

    int swayed(int rule, int v) {
        if (!isRule(rule)) {
            return no(1);
        }
        return v < 0 || v > 99 ? no(2) : yes(treeBy(rule, v).breaks);
    }

    // ---- beside one another

    private boolean areTwins(int i, int j, int n) {
        boolean hasLast = i + n == n() || j + n == n();
        if (hasLast && i != j) {
            return false;
        }
        for (int t = 0; t < n; t++) {
            if (!piece.length.get(i + t).equals(piece.length.get(j + t))
                    || piece.strength(i + t) != piece.strength(j + t)
                    || piece.stable(i + t) != piece.stable(j + t)
                    || piece.pitch.get(i + t) - piece.pitch.get(j + t)
                    != piece.pitch.get(i) - piece.pitch.get(j)) {
                return false;
            }
        }
        return true;
    }

    private boolean areSpans(int i, int j, int n) {
        return isSpan(i, (long) i + n - 1) && isSpan(j, (long) j + n - 1);
    }

    int twins(int i, int j, int n) {
        return areSpans(i, j, n) ? yes(areTwins(i, j, n) ? 1 : 0) : no(1);
    }

    int twin(int what) {
        if (piece == null || what < 0 || what > 2) {
            return no(1);
        }
        int[] found = {0, -2, -2};
        for (int n = 1; n <= n(); n++) {
            for (int i = 0; i + n <= n(); i++) {
                for (int j = i + n; j + n <= n(); j++) {
                    if (n > found[0] && areTwins(i, j, n)) {
                        found = new int[] {n, i, j};
                    }
                }
            }
        }
        return yes(found[what]);
    }

    int alike(int i, int j, int n) {
        return areSpans(i, j, n)
                ? yes(best().of(i, i + n - 1).same(best().of(j, j + n - 1), j - i) ? 1 : 0) : no(1);
    }

    int keep() {
        if (piece == null) {
            return no(1);
        }
        kept = tree().copy();
        return yes(tree().breaks);
    }

    int unlike(int what) {
        if (kept == null || what < 0 || what > 2) {
            return no(1);
        }
        int[] sums = new int[3];
        for (Node node : joiningsOf(tree())) {
            Node then = null;
            for (Node k : joiningsOf(kept)) {
                if (k.first == node.first && k.last == node.last) {
                    then = k;
                }
            }
            sums[0] += then == null ? 1 : 0;
            sums[1] += then != null && then.head != node.head ? 1 : 0;
        }
        for (int k = 0; k < n(); k++) {
            sums[2] += rankOf(tree(), k) != rankOf(kept, k) ? 1 : 0;
        }
        return yes(sums[what]);
    }

    int keptBreaks() {
        if (kept == null) {
            return no(1);
        }
        int sum = 0;
        for (int rule = 0; rule < 6; rule++) {
            sum += sumOf(piece, kept, rule);
        }
        return yes(sum);
    }

    // ---- acts

    private void remember() {
        past.add(piece.copy());
        if (past.size() > 10) {
            past.remove(0);
        }
        best = null;
    }

    int pitch(int k, int v) {
        if (!isNote(k)) {
            return no(1);
        }
        if (v < 0 || v > 99) {
            return no(2);
        }
        remember();
        return yes(piece.pitch.set(k, v));
    }

    int last(int k, int v) {
        if (!isNote(k)) {
            return no(1);
        }
        if (v < 1 || v > 64) {
            return no(2);
        }
        remember();
        return yes(piece.length.set(k, v));
    }

    int weigh(int rule, int v) {
        if (!isRule(rule)) {
            return no(1);
        }
        if (v < 0 || v > 99) {
            return no(2);
        }
        remember();
        int was = piece.weight[rule];
        piece.weight[rule] = v;
        return yes(was);
    }

    int key(int v) {
        if (piece == null) {
            return no(1);
        }
        if (v < 0 || v > 11) {
            return no(2);
        }
        remember();
        int was = piece.key;
        piece.key = v;
        return yes(was);
    }

    int move(int by) {
        if (piece == null) {
            return no(1);
        }
        if (by < -99 || by > 99) {
            return no(2);
        }
        for (int p : piece.pitch) {
            if (p + by < 0 || p + by > 99) {
                return no(5);
            }
        }
        remember();
        piece.pitch.replaceAll(p -> p + by);
        return yes(tree().breaks);
    }

    boolean undo() {
        if (past.isEmpty()) {
            trouble = 1;
            return false;
        }
        piece = past.remove(past.size() - 1);
        best = null;
        trouble = 0;
        return true;
    }

    // ---- what is told

    int bare(int i) {
        List<Integer> found = new ArrayList<>();
        for (int k = 0; k < n(); k++) {
            if (directlyUnder(k).isEmpty()) {
                found.add(k);
            }
        }
        if (i < 0 || i >= found.size()) {
            throw new NoSuchElementException();
        }
        return found.get(i);
    }

    int size(int what) {
        return what == 0 ? tape.length() : what == 1 ? past.size() : what == 2 ? (kept == null ? 0 : 1) : NONE;
    }

    int trouble() {
        return trouble;
    }
}
