import java.util.NoSuchElementException;

/**
 * Melodies as trees: notes joined two spans at a time, one of both heads staying head, by rules
 * that tell what each joining breaks. Words in capitals are those of the document.
 */
public final class HeadTrees {
    public static final int NONE = -1;

    // What a call answers that is not refused, but has no number to tell.
    private static final int NOTHING = -2;

    private static final int TAPE_BYTES = 700;
    private static final int FEED_BYTES = 20;
    private static final int MOST_NOTES = 24;
    private static final int MOST_BAR = 64;
    private static final int MOST_KEY = 11;
    private static final int MOST_PITCH = 99;
    private static final int MOST_LONG = 64;
    private static final int MOST_WEIGHT = 99;
    private static final int MOST_UNDONE = 10;
    private static final long MOST_WAYS = 1_000_000_000_000L;
    // More than any TREE can break: 23 joinings, less than 20,000 each.
    private static final int BEYOND = 1_000_000_000;

    private static final int RULES = 6;
    private static final int STRONG = 0;
    private static final int LONG = 1;
    private static final int STABLE = 2;
    private static final int STEP = 3;
    private static final int EVEN = 4;
    private static final int CLOSE = 5;

    private static final int NO_TROUBLE = 0;
    private static final int NONE_SUCH = 1;
    private static final int BAD_NUMBER = 2;
    private static final int FAULTY = 4;
    private static final int NOT_SO = 5;

    private static final int PITCH_ACT = 0;
    private static final int LONG_ACT = 1;
    private static final int WEIGHT_ACT = 2;
    private static final int KEY_ACT = 3;
    private static final int MOVE_ACT = 4;

    private int latestTrouble = NO_TROUBLE;
    private final Reader reader = new Reader();
    private Score score = new Score();
    private final Acts acts = new Acts();

    // What follows from the PIECE: made when it is first asked for, and again after a change.
    private final Chart spans = new Chart();
    private boolean spansFresh = false;
    private final Counts counts = new Counts();
    private boolean countsFresh = false;
    private final Tree whole = new Tree();
    private boolean wholeFresh = false;
    private final Sway sway = new Sway();

    private final Tree kept = new Tree();
    private boolean hasKept = false;

    // Room for what single calls look at, made once.
    private final Tree oneTree = new Tree();
    private final Tree otherTree = new Tree();
    private final Layer layer = new Layer();
    private final Layer within = new Layer();

    public HeadTrees() {
    }

    // ---- the piece

    public int feed(int a, int b, int c, int d, int e) {
        if (reader.taped > TAPE_BYTES - FEED_BYTES) {
            return NONE;
        }
        reader.take(a);
        reader.take(b);
        reader.take(c);
        reader.take(d);
        reader.take(e);
        return reader.taped;
    }

    public int piece(int n) {
        if (n < 0 || n > reader.taped) {
            return refuse(BAD_NUMBER);
        }
        reader.read(n);
        if (reader.fault != 0) {
            return refuse(FAULTY);
        }
        score = reader.swap(score);
        acts.size = 0;
        hasKept = false;
        renew();
        return grant(score.count);
    }

    public int fault() {
        return reader.fault;
    }

    public int where() {
        return latestTrouble == FAULTY ? reader.at : NONE;
    }

    public int about(int what) {
        if (!hasPiece()) {
            return refuse(NONE_SUCH);
        }
        switch (what) {
            case 0:
                return grant(score.bar);
            case 1:
                return grant(score.beat);
            case 2:
                return grant(score.key);
            case 3:
                return grant(score.count);
            case 4:
                return grant(score.lasting(0, score.count - 1));
            case 5:
                return grant(score.weighted());
            default:
                return refuse(NONE_SUCH);
        }
    }

    public int note(int k, int what) {
        if (!hasNote(k)) {
            return refuse(NONE_SUCH);
        }
        switch (what) {
            case 0:
                return grant(score.pitches[k]);
            case 1:
                return grant(score.lengths[k]);
            case 2:
                return grant(score.begins[k]);
            case 3:
                return grant(score.strengths[k]);
            case 4:
                return grant(score.stables[k]);
            case 5:
                return grant(freshTree().rank(k));
            default:
                return refuse(NONE_SUCH);
        }
    }

    public int weight(int rule) {
        return hasRule(rule) ? grant(score.weights[rule]) : refuse(NONE_SUCH);
    }

    // ---- spans

    public int breaks(int i, int j) {
        return hasSpan(i, j) ? grant(freshSpans().least(i, j)) : refuse(NONE_SUCH);
    }

    public int head(int i, int j) {
        return hasSpan(i, j) ? grant(freshSpans().bestHead(i, j)) : refuse(NONE_SUCH);
    }

    public int split(int i, int j) {
        if (!hasSpan(i, j)) {
            return refuse(NONE_SUCH);
        }
        if (i == j) {
            return grant(NOTHING);
        }
        Chart chart = freshSpans();
        return grant(chart.bestSplit(i, j, chart.bestHead(i, j)));
    }

    public int breaksBy(int i, int j, int head) {
        if (!hasSpan(i, j) || head < i || head > j) {
            return refuse(NONE_SUCH);
        }
        return grant(freshSpans().cell(i, j, head));
    }

    public long ways(int i, int j) {
        if (!hasSpan(i, j)) {
            return refuse(NONE_SUCH);
        }
        latestTrouble = NO_TROUBLE;
        Chart chart = freshSpans();
        if (!countsFresh) {
            counts.fill(chart);
            countsFresh = true;
        }
        return Math.min(counts.ofBest(chart, i, j), MOST_WAYS);
    }

    public int splitCost(int i, int j, int split) {
        if (!hasSpan(i, j) || split < i || split >= j) {
            return refuse(NONE_SUCH);
        }
        Chart chart = freshSpans();
        return grant(chart.leastSplitAt(i, j, split) - chart.least(i, j));
    }

    public int second(int i, int j) {
        if (!hasSpan(i, j)) {
            return refuse(NONE_SUCH);
        }
        return grant(i == j ? NOTHING : freshSpans().nextHead(i, j));
    }

    public int broken(int rule, int head, int under, int left, int right) {
        if (!hasRule(rule) || !hasNote(head) || !hasNote(under) || head == under) {
            return refuse(NONE_SUCH);
        }
        if (left < 1 || left >= MOST_NOTES || right < 1 || right >= MOST_NOTES) {
            return refuse(BAD_NUMBER);
        }
        return grant(score.weights[rule] * score.units(rule, head, under, left, right));
    }

    // ---- the tree

    public int joinings() {
        return hasPiece() ? grant(freshTree().joined) : refuse(NONE_SUCH);
    }

    public int joining(int i, int what) {
        if (!hasPiece()) {
            return refuse(NONE_SUCH);
        }
        Tree tree = freshTree();
        if (i < 0 || i >= tree.joined) {
            return refuse(NONE_SUCH);
        }
        switch (what) {
            case 0:
                return grant(tree.firsts[i]);
            case 1:
                return grant(tree.lasts[i]);
            case 2:
                return grant(tree.splits[i]);
            case 3:
                return grant(tree.heads[i]);
            case 4:
                return grant(tree.unders[i]);
            case 5:
                return grant(tree.breaksAt(score, i));
            case 6:
                return grant(tree.depths[i]);
            default:
                return refuse(NONE_SUCH);
        }
    }

    public int breaksOf(int rule) {
        if (!hasRule(rule)) {
            return refuse(NONE_SUCH);
        }
        return grant(score.weights[rule] * freshTree().unitsOf(score, rule));
    }

    public int deepest() {
        return hasPiece() ? grant(freshTree().greatestDepth()) : refuse(NONE_SUCH);
    }

    public int level(int d) {
        int refusal = cutLayer(layer, d);
        return refusal == NO_TROUBLE ? grant(layer.size) : refuse(refusal);
    }

    public int levelNote(int d, int k, int what) {
        int refusal = cutLayer(layer, d);
        if (refusal != NO_TROUBLE) {
            return refuse(refusal);
        }
        if (k < 0 || k >= layer.size) {
            return refuse(NONE_SUCH);
        }
        switch (what) {
            case 0:
                return grant(layer.notes[k]);
            case 1:
                return grant(score.begins[layer.firsts[k]]);
            case 2:
                return grant(score.lasting(layer.firsts[k], layer.lasts[k]));
            default:
                return refuse(NONE_SUCH);
        }
    }

    public int path(int d) {
        int refusal = cutLayer(layer, d);
        if (refusal != NO_TROUBLE) {
            return refuse(refusal);
        }
        int sum = 0;
        for (int k = 0; k + 1 < layer.size; k++) {
            sum += Math.abs(layer.stepFrom(score, k));
        }
        return grant(sum);
    }

    public int reach(int k, int what) {
        if (!hasNote(k)) {
            return refuse(NONE_SUCH);
        }
        Tree tree = freshTree();
        switch (what) {
            case 0:
                return grant(tree.partFirst(k));
            case 1:
                return grant(tree.partLast(k));
            case 2:
                return grant(tree.noteOver(k));
            default:
                return refuse(NONE_SUCH);
        }
    }

    public int climax(int d) {
        int refusal = cutLayer(layer, d);
        if (refusal != NO_TROUBLE) {
            return refuse(refusal);
        }
        int highest = layer.notes[0];
        for (int k = 1; k < layer.size; k++) {
            if (score.pitches[layer.notes[k]] > score.pitches[highest]) {
                highest = layer.notes[k];
            }
        }
        return grant(highest);
    }

    public int widest(int d) {
        int refusal = cutLayer(layer, d);
        if (refusal != NO_TROUBLE) {
            return refuse(refusal);
        }
        int width = 0;
        for (int k = 0; k + 1 < layer.size; k++) {
            width = Math.max(width, Math.abs(layer.stepFrom(score, k)));
        }
        return grant(width);
    }

    public int echo(int d, int e) {
        int refusal = cutLayer(layer, d);
        if (refusal == NO_TROUBLE) {
            refusal = cutLayer(within, e);
        }
        if (refusal != NO_TROUBLE) {
            return refuse(refusal);
        }
        int places = 0;
        for (int from = 0; from + layer.size <= within.size; from++) {
            if (layer.stepsAsIn(score, within, from)) {
                places++;
            }
        }
        return grant(places);
    }

    public int over(int k, int other) {
        if (!hasNote(k) || !hasNote(other)) {
            return refuse(NONE_SUCH);
        }
        return grant(freshTree().headOverBoth(k, other));
    }

    public int under(int k) {
        return hasNote(k) ? grant(freshTree().notesUnder(k)) : refuse(NONE_SUCH);
    }

    // ---- by other weights

    public int firm(int rule, boolean upper) {
        if (!hasRule(rule)) {
            return refuse(NONE_SUCH);
        }
        return grant(upper ? sway.firmUpTo(score, rule) : sway.firmDownTo(score, rule));
    }

    public int sways(int rule, int k) {
        if (!hasRule(rule) || !hasNote(k)) {
            return refuse(NONE_SUCH);
        }
        sway.learnAll(score, rule);
        return grant(sway.leastWeightFor(rule, k));
    }

    public int swayed(int rule, int v) {
        if (!hasRule(rule)) {
            return refuse(NONE_SUCH);
        }
        if (v < 0 || v > MOST_WEIGHT) {
            return refuse(BAD_NUMBER);
        }
        return grant(sway.breaksWith(score, rule, v));
    }

    // ---- beside one another

    public int twins(int i, int j, int n) {
        if (!hasNotesFrom(i, n) || !hasNotesFrom(j, n)) {
            return refuse(NONE_SUCH);
        }
        return grant(score.areTwins(i, j, n) ? 1 : 0);
    }

    public int twin(int what) {
        if (!hasPiece() || what < 0 || what > 2) {
            return refuse(NONE_SUCH);
        }
        for (int n = score.count / 2; n >= 1; n--) {
            for (int i = 0; i + 2 * n <= score.count; i++) {
                int j = score.nextTwin(i, n);
                if (j != NONE) {
                    return grant(what == 0 ? n : what == 1 ? i : j);
                }
            }
        }
        return grant(what == 0 ? 0 : NOTHING);
    }

    public int alike(int i, int j, int n) {
        if (!hasNotesFrom(i, n) || !hasNotesFrom(j, n)) {
            return refuse(NONE_SUCH);
        }
        Chart chart = freshSpans();
        oneTree.build(chart, i, i + n - 1);
        otherTree.build(chart, j, j + n - 1);
        return grant(oneTree.isLike(otherTree, j - i) ? 1 : 0);
    }

    public int keep() {
        if (!hasPiece()) {
            return refuse(NONE_SUCH);
        }
        kept.build(freshSpans(), 0, score.count - 1);
        hasKept = true;
        return grant(wholeBreaks());
    }

    public int unlike(int what) {
        if (!hasKept) {
            return refuse(NONE_SUCH);
        }
        switch (what) {
            case 0:
                return grant(freshTree().spansNotIn(kept));
            case 1:
                return grant(freshTree().headsUnlike(kept));
            case 2:
                return grant(freshTree().ranksUnlike(kept, score.count));
            default:
                return refuse(NONE_SUCH);
        }
    }

    public int keptBreaks() {
        return hasKept ? grant(kept.breaksOfAll(score)) : refuse(NONE_SUCH);
    }

    // ---- acts

    public int pitch(int k, int v) {
        if (!hasNote(k)) {
            return refuse(NONE_SUCH);
        }
        if (v < 0 || v > MOST_PITCH) {
            return refuse(BAD_NUMBER);
        }
        return act(PITCH_ACT, k, score.pitches[k], v);
    }

    public int last(int k, int v) {
        if (!hasNote(k)) {
            return refuse(NONE_SUCH);
        }
        if (v < 1 || v > MOST_LONG) {
            return refuse(BAD_NUMBER);
        }
        return act(LONG_ACT, k, score.lengths[k], v);
    }

    public int weigh(int rule, int v) {
        if (!hasRule(rule)) {
            return refuse(NONE_SUCH);
        }
        if (v < 0 || v > MOST_WEIGHT) {
            return refuse(BAD_NUMBER);
        }
        return act(WEIGHT_ACT, rule, score.weights[rule], v);
    }

    public int key(int v) {
        if (!hasPiece()) {
            return refuse(NONE_SUCH);
        }
        if (v < 0 || v > MOST_KEY) {
            return refuse(BAD_NUMBER);
        }
        return act(KEY_ACT, 0, score.key, v);
    }

    public int move(int by) {
        if (!hasPiece()) {
            return refuse(NONE_SUCH);
        }
        if (by < -MOST_PITCH || by > MOST_PITCH) {
            return refuse(BAD_NUMBER);
        }
        if (!score.canMove(by)) {
            return refuse(NOT_SO);
        }
        act(MOVE_ACT, 0, -by, by);
        return grant(wholeBreaks());
    }

    public boolean undo() {
        if (acts.size < 1) {
            latestTrouble = NONE_SUCH;
            return false;
        }
        acts.size--;
        int latest = acts.size;
        change(acts.kinds[latest], acts.places[latest], acts.olds[latest]);
        latestTrouble = NO_TROUBLE;
        return true;
    }

    // ---- what is told

    public int bare(int i) throws NoSuchElementException {
        int met = 0;
        for (int k = 0; k < score.count; k++) {
            if (freshTree().notesUnder(k) == 0) {
                if (met == i) {
                    return k;
                }
                met++;
            }
        }
        throw new NoSuchElementException();
    }

    public int size(int what) {
        switch (what) {
            case 0:
                return reader.taped;
            case 1:
                return acts.size;
            case 2:
                return hasKept ? 1 : 0;
            default:
                return NONE;
        }
    }

    public int trouble() {
        return latestTrouble;
    }

    // ---- what the calls share

    private int refuse(int number) {
        latestTrouble = number;
        return NONE;
    }

    private int grant(int answer) {
        latestTrouble = NO_TROUBLE;
        return answer;
    }

    private boolean hasPiece() {
        return score.count > 0;
    }

    private boolean hasNote(int k) {
        return k >= 0 && k < score.count;
    }

    private boolean hasSpan(int i, int j) {
        return i >= 0 && i <= j && j < score.count;
    }

    // n is looked at first, so that no sum of arguments can wrap around.
    private boolean hasNotesFrom(int i, int n) {
        return n >= 1 && n <= score.count && i >= 0 && i <= score.count - n;
    }

    private boolean hasRule(int rule) {
        return hasPiece() && rule >= 0 && rule < RULES;
    }

    private void renew() {
        spansFresh = false;
        countsFresh = false;
        wholeFresh = false;
        sway.forget();
    }

    private Chart freshSpans() {
        if (!spansFresh) {
            spans.fill(score);
            spansFresh = true;
        }
        return spans;
    }

    private Tree freshTree() {
        if (!wholeFresh) {
            whole.build(freshSpans(), 0, score.count - 1);
            wholeFresh = true;
        }
        return whole;
    }

    private int wholeBreaks() {
        return freshSpans().least(0, score.count - 1);
    }

    private int cutLayer(Layer target, int d) {
        if (!hasPiece()) {
            return NONE_SUCH;
        }
        Tree tree = freshTree();
        if (d < 0 || d > tree.greatestDepth()) {
            return BAD_NUMBER;
        }
        target.cut(tree, d, score.count);
        return NO_TROUBLE;
    }

    private int act(int kind, int place, int old, int value) {
        acts.add(kind, place, old);
        change(kind, place, value);
        return grant(old);
    }

    private void change(int kind, int place, int value) {
        switch (kind) {
            case PITCH_ACT:
                score.pitches[place] = value;
                break;
            case LONG_ACT:
                score.lengths[place] = value;
                break;
            case WEIGHT_ACT:
                score.weights[place] = value;
                break;
            case KEY_ACT:
                score.key = value;
                break;
            default:
                score.moveAll(value);
                break;
        }
        score.derive();
        renew();
    }

    /** A PIECE: what its text and the ACTS tell, and what follows from that for each NOTE. */
    private static final class Score {
        int bar = 1;
        int beat = 1;
        int key = 0;
        int count = 0;
        final int[] pitches = new int[MOST_NOTES];
        final int[] lengths = new int[MOST_NOTES];
        final int[] weights = new int[RULES];
        final int[] begins = new int[MOST_NOTES];
        final int[] strengths = new int[MOST_NOTES];
        final int[] stables = new int[MOST_NOTES];

        void empty() {
            bar = 1;
            beat = 1;
            key = 0;
            count = 0;
            for (int rule = 0; rule < RULES; rule++) {
                weights[rule] = 0;
            }
        }

        void addNote(int pitch, int length) {
            if (count < MOST_NOTES) {
                pitches[count] = pitch;
                lengths[count] = length;
                count++;
            }
        }

        void derive() {
            int begin = 0;
            for (int k = 0; k < count; k++) {
                begins[k] = begin;
                strengths[k] = strengthAt(begin);
                stables[k] = stableOf(pitches[k]);
                begin += lengths[k];
            }
        }

        private int strengthAt(int begin) {
            if (isMultiple(begin, bar)) {
                return 3;
            }
            if (isMultiple(2 * begin, bar)) {
                return 2;
            }
            return isMultiple(begin, beat) ? 1 : 0;
        }

        private static boolean isMultiple(int number, int of) {
            return of > 0 && number % of == 0;
        }

        private int stableOf(int pitch) {
            int tone = Math.floorMod(pitch - key, 12);
            if (tone == 0) {
                return 2;
            }
            return tone == 4 || tone == 7 ? 1 : 0;
        }

        int lasting(int i, int j) {
            int sum = 0;
            for (int k = i; k <= j; k++) {
                sum += lengths[k];
            }
            return sum;
        }

        int weighted() {
            int sum = 0;
            for (int rule = 0; rule < RULES; rule++) {
                sum += weights[rule] > 0 ? 1 : 0;
            }
            return sum;
        }

        /** What a joining breaks by a RULE, as if its WEIGHT were 1. */
        int units(int rule, int head, int under, int left, int right) {
            switch (rule) {
                case STRONG:
                    return excess(strengths[under], strengths[head]);
                case LONG:
                    return excess(lengths[under], lengths[head]);
                case STABLE:
                    return excess(stables[under], stables[head]);
                case STEP:
                    return excess(Math.abs(pitches[under] - pitches[head]), 2);
                case EVEN:
                    return Math.abs(left - right);
                case CLOSE:
                    return under == count - 1 ? 1 : 0;
                default:
                    return 0;
            }
        }

        private static int excess(int number, int above) {
            return number > above ? number - above : 0;
        }

        int breaking(int head, int under, int left, int right) {
            int sum = 0;
            for (int rule = 0; rule < RULES; rule++) {
                sum += weights[rule] * units(rule, head, under, left, right);
            }
            return sum;
        }

        boolean areTwins(int i, int j, int n) {
            if (i == j) {
                return true;
            }
            if (Math.max(i, j) + n >= count) {
                return false;
            }
            int step = pitches[j] - pitches[i];
            for (int t = 0; t < n; t++) {
                if (pitches[j + t] - pitches[i + t] != step
                        || lengths[j + t] != lengths[i + t]
                        || strengths[j + t] != strengths[i + t]
                        || stables[j + t] != stables[i + t]) {
                    return false;
                }
            }
            return true;
        }

        /** The first NOTE of the first TWIN behind the n NOTES from i; NONE without one. */
        int nextTwin(int i, int n) {
            for (int j = i + n; j + n <= count; j++) {
                if (areTwins(i, j, n)) {
                    return j;
                }
            }
            return NONE;
        }

        boolean canMove(int by) {
            for (int k = 0; k < count; k++) {
                if (pitches[k] + by < 0 || pitches[k] + by > MOST_PITCH) {
                    return false;
                }
            }
            return true;
        }

        void moveAll(int by) {
            for (int k = 0; k < count; k++) {
                pitches[k] += by;
            }
        }
    }

    /** Reads the text of a PIECE, TOKEN by TOKEN, up to its first FAULT. */
    private static final class Reader {
        private static final int FORM = 1;
        private static final int BOUNDS = 2;
        private static final int AGAIN = 3;
        private static final int MANY = 4;
        private static final int LACKS = 5;

        private static final int BAD = 0;
        private static final int END = 1;
        private static final int WORD = 2;
        private static final int WHOLE = 3;
        private static final int SEMICOLON = 4;

        int taped = 0;
        private final byte[] tape = new byte[TAPE_BYTES];
        private int length = 0;

        // A PIECE of its own, so that a text with a FAULT leaves the other one as it is.
        private Score draft = new Score();
        private boolean toldPiece = false;
        private final boolean[] toldRules = new boolean[RULES];

        // The TOKEN at hand: its kind, its first byte, the byte behind it, of a WHOLE its number.
        private int kind = BAD;
        int at = 0;
        private int behind = 0;
        private int number = 0;

        int fault = 0;

        void take(int bytes) {
            for (int shift = 24; shift >= 0 && taped < TAPE_BYTES; shift -= 8) {
                tape[taped] = (byte) (bytes >> shift);
                taped++;
            }
        }

        /** The PIECE last read, for one that is no more needed. */
        Score swap(Score old) {
            Score read = draft;
            draft = old;
            return read;
        }

        /** With a FAULT the TOKEN at hand stays the one at which it was met. */
        void read(int n) {
            length = Math.min(n, taped);
            taped = 0;
            behind = 0;
            toldPiece = false;
            for (int rule = 0; rule < RULES; rule++) {
                toldRules[rule] = false;
            }
            draft.empty();
            fault = readLines();
            draft.derive();
        }

        private int readLines() {
            // Each LINE has bytes of its own, so that there are fewer LINES than bytes.
            for (int lines = 0; lines <= length; lines++) {
                advance();
                int met = readLine();
                if (met != 0) {
                    return met;
                }
                if (kind == END) {
                    return draft.count > 0 ? 0 : LACKS;
                }
                if (kind != SEMICOLON) {
                    return FORM;
                }
            }
            return FORM;
        }

        private int readLine() {
            if (says("piece")) {
                return toldPiece ? AGAIN : readPiece();
            }
            if (says("note")) {
                return !toldPiece ? LACKS : draft.count >= MOST_NOTES ? MANY : readNote();
            }
            if (says("rule")) {
                return !toldPiece ? LACKS : readRule();
            }
            return FORM;
        }

        private int readPiece() {
            toldPiece = true;
            advance();
            int met = readNamed("bar", 1, MOST_BAR);
            if (met != 0) {
                return met;
            }
            draft.bar = number;
            advance();
            met = readNamed("beat", 1, draft.bar);
            if (met != 0) {
                return met;
            }
            draft.beat = number;
            advance();
            met = readNamed("key", 0, MOST_KEY);
            if (met != 0) {
                return met;
            }
            draft.key = number;
            advance();
            return 0;
        }

        private int readNote() {
            advance();
            int met = checkWhole(0, MOST_PITCH);
            if (met != 0) {
                return met;
            }
            int pitch = number;
            advance();
            met = readNamed("long", 1, MOST_LONG);
            if (met != 0) {
                return met;
            }
            draft.addNote(pitch, number);
            advance();
            return 0;
        }

        private int readRule() {
            advance();
            int rule = ruleSaid();
            if (rule == NONE) {
                return FORM;
            }
            if (toldRules[rule]) {
                return AGAIN;
            }
            toldRules[rule] = true;
            advance();
            int met = checkWhole(0, MOST_WEIGHT);
            if (met != 0) {
                return met;
            }
            draft.weights[rule] = number;
            advance();
            return 0;
        }

        private int readNamed(String name, int least, int most) {
            if (!says(name)) {
                return FORM;
            }
            advance();
            return checkWhole(least, most);
        }

        private int checkWhole(int least, int most) {
            if (kind != WHOLE) {
                return FORM;
            }
            return number < least || number > most ? BOUNDS : 0;
        }

        private int ruleSaid() {
            if (says("strong")) {
                return STRONG;
            }
            if (says("long")) {
                return LONG;
            }
            if (says("stable")) {
                return STABLE;
            }
            if (says("step")) {
                return STEP;
            }
            if (says("even")) {
                return EVEN;
            }
            return says("close") ? CLOSE : NONE;
        }

        private boolean says(String word) {
            if (kind != WORD || behind - at != word.length()) {
                return false;
            }
            for (int t = 0; t < word.length(); t++) {
                if (tape[at + t] != word.charAt(t)) {
                    return false;
                }
            }
            return true;
        }

        // All letters that stand together are one WORD or, if they are too many, none; digits likewise.
        private void advance() {
            at = behind;
            while (at < length && tape[at] == ' ') {
                at++;
            }
            kind = kindAt(at);
            behind = kind == END ? at : at + 1;
            boolean goesOn = kind == WORD || kind == WHOLE;
            while (goesOn && behind < length && kindAt(behind) == kind) {
                behind++;
            }
            if (kind == WORD && behind - at > 6 || kind == WHOLE && behind - at > 2) {
                kind = BAD;
            }
            number = kind == WHOLE ? numberSaid() : 0;
        }

        private int kindAt(int index) {
            if (index >= length) {
                return END;
            }
            int sign = tape[index];
            if (sign >= 'a' && sign <= 'z') {
                return WORD;
            }
            if (sign >= '0' && sign <= '9') {
                return WHOLE;
            }
            return sign == ';' ? SEMICOLON : BAD;
        }

        private int numberSaid() {
            int said = 0;
            for (int t = at; t < behind; t++) {
                said = said * 10 + (tape[t] - '0');
            }
            return said;
        }
    }

    /**
     * Of each SPAN and NOTE the least BREAKS: if the NOTE is in the SPAN, of the TREES with it as
     * HEAD; if it isn't, of the TREES together with joining the SPAN's HEAD UNDER that NOTE, but
     * for rule even. So a joining at a SPLIT costs just the cells of both parts for its HEAD (one
     * of the parts has it, the other goes UNDER it) and what even asks there.
     */
    private static final class Chart {
        static final int CELLS = MOST_NOTES * (MOST_NOTES + 1) / 2 * MOST_NOTES;

        int count = 0;
        private int even = 0;
        private int[] cells = new int[0];
        private int[] pairs = new int[0];

        static int row(int i, int j) {
            return (j * (j + 1) / 2 + i) * MOST_NOTES;
        }

        int cell(int i, int j, int h) {
            return cells[row(i, j) + h];
        }

        void fill(Score score) {
            // Made late, so that an object which never asks for a TREE stays small.
            if (cells.length < CELLS) {
                cells = new int[CELLS];
                pairs = new int[MOST_NOTES * MOST_NOTES];
            }
            count = score.count;
            even = score.weights[EVEN];
            for (int h = 0; h < count; h++) {
                for (int u = 0; u < count; u++) {
                    // Parts of as many NOTES: nothing by even, which hangs on the SPLIT alone.
                    pairs[h * MOST_NOTES + u] = score.breaking(h, u, 1, 1);
                }
            }
            for (int n = 1; n <= count; n++) {
                for (int i = 0; i + n <= count; i++) {
                    fillSpan(i, i + n - 1);
                }
            }
        }

        private void fillSpan(int i, int j) {
            int row = row(i, j);
            for (int h = i; h <= j; h++) {
                cells[row + h] = i == j ? 0 : leastInside(i, j, h);
            }
            for (int h = 0; h < i; h++) {
                cells[row + h] = leastUnder(row, i, j, h * MOST_NOTES);
            }
            for (int h = j + 1; h < count; h++) {
                cells[row + h] = leastUnder(row, i, j, h * MOST_NOTES);
            }
        }

        private int leastInside(int i, int j, int h) {
            int left = row(i, i) + h;
            int right = row(i + 1, j) + h;
            int uneven = i - j + 1;
            int least = BEYOND;
            for (int s = i; s < j; s++) {
                int sum = cells[left] + cells[right] + even * (uneven < 0 ? -uneven : uneven);
                if (sum < least) {
                    least = sum;
                }
                left += (s + 1) * MOST_NOTES;
                right += MOST_NOTES;
                uneven += 2;
            }
            return least;
        }

        private int leastUnder(int row, int i, int j, int pairRow) {
            int least = cells[row + i] + pairs[pairRow + i];
            for (int u = i + 1; u <= j; u++) {
                int sum = cells[row + u] + pairs[pairRow + u];
                if (sum < least) {
                    least = sum;
                }
            }
            return least;
        }

        int least(int i, int j) {
            return cell(i, j, bestHead(i, j));
        }

        int bestHead(int i, int j) {
            int row = row(i, j);
            int best = i;
            for (int h = i + 1; h <= j; h++) {
                if (cells[row + h] < cells[row + best]) {
                    best = h;
                }
            }
            return best;
        }

        /** The best HEAD of a SPAN of several NOTES but the best of all. */
        int nextHead(int i, int j) {
            int row = row(i, j);
            int best = bestHead(i, j);
            int next = best == i ? i + 1 : i;
            for (int h = next + 1; h <= j; h++) {
                if (h != best && cells[row + h] < cells[row + next]) {
                    next = h;
                }
            }
            return next;
        }

        int splitAt(int i, int j, int s, int h) {
            int uneven = (s + 1 - i) - (j - s);
            return cells[row(i, s) + h] + cells[row(s + 1, j) + h] + even * Math.abs(uneven);
        }

        int leastSplitAt(int i, int j, int s) {
            int least = splitAt(i, j, s, i);
            for (int h = i + 1; h <= j; h++) {
                least = Math.min(least, splitAt(i, j, s, h));
            }
            return least;
        }

        int bestSplit(int i, int j, int h) {
            int least = cell(i, j, h);
            int s = i;
            while (s + 1 < j && splitAt(i, j, s, h) != least) {
                s++;
            }
            return s;
        }

        int underAt(int i, int j, int h, int u) {
            return cells[row(i, j) + u] + pairs[h * MOST_NOTES + u];
        }

        /** The HEAD of a part that goes UNDER a NOTE h which isn't in it. */
        int bestUnder(int i, int j, int h) {
            int least = cell(i, j, h);
            int u = i;
            while (u < j && underAt(i, j, h, u) != least) {
                u++;
            }
            return u;
        }
    }

    /**
     * How many TREES there are for each cell of a chart. A PIECE has at most 2^23 times the 23rd
     * of Catalan's numbers, some 2.9 * 10^18, so that no sum here leaves a long.
     */
    private static final class Counts {
        private long[] cells = new long[0];

        void fill(Chart chart) {
            if (cells.length < Chart.CELLS) {
                cells = new long[Chart.CELLS];
            }
            for (int n = 1; n <= chart.count; n++) {
                for (int i = 0; i + n <= chart.count; i++) {
                    fillSpan(chart, i, i + n - 1);
                }
            }
        }

        private void fillSpan(Chart chart, int i, int j) {
            int row = Chart.row(i, j);
            for (int h = i; h <= j; h++) {
                cells[row + h] = i == j ? 1 : countInside(chart, i, j, h);
            }
            for (int h = 0; h < chart.count; h++) {
                if (h < i || h > j) {
                    cells[row + h] = countUnder(chart, i, j, h);
                }
            }
        }

        private long countInside(Chart chart, int i, int j, int h) {
            int least = chart.cell(i, j, h);
            long sum = 0;
            for (int s = i; s < j; s++) {
                if (chart.splitAt(i, j, s, h) == least) {
                    sum += cells[Chart.row(i, s) + h] * cells[Chart.row(s + 1, j) + h];
                }
            }
            return sum;
        }

        private long countUnder(Chart chart, int i, int j, int h) {
            int least = chart.cell(i, j, h);
            long sum = 0;
            for (int u = i; u <= j; u++) {
                if (chart.underAt(i, j, h, u) == least) {
                    sum += cells[Chart.row(i, j) + u];
                }
            }
            return sum;
        }

        long ofBest(Chart chart, int i, int j) {
            int least = chart.least(i, j);
            long sum = 0;
            for (int h = i; h <= j; h++) {
                if (chart.cell(i, j, h) == least) {
                    sum += cells[Chart.row(i, j) + h];
                }
            }
            return sum;
        }
    }

    /** BEST of a SPAN: its JOININGS, in the order of their numbers. */
    private static final class Tree {
        private int first = 0;
        private int last = 0;
        int joined = 0;
        final int[] firsts = new int[MOST_NOTES];
        final int[] lasts = new int[MOST_NOTES];
        final int[] splits = new int[MOST_NOTES];
        final int[] heads = new int[MOST_NOTES];
        final int[] unders = new int[MOST_NOTES];
        final int[] depths = new int[MOST_NOTES];
        // Of each NOTE the JOINING in which it is UNDER; NONE of the HEAD of all.
        private final int[] uppers = new int[MOST_NOTES];

        void build(Chart chart, int i, int j) {
            first = i;
            last = j;
            joined = j - i;
            int top = chart.bestHead(i, j);
            uppers[top] = NONE;
            if (joined > 0) {
                open(0, i, j, top, 0);
            }
            for (int t = 0; t < joined; t++) {
                divide(chart, t);
            }
        }

        private void open(int t, int i, int j, int head, int depth) {
            firsts[t] = i;
            lasts[t] = j;
            heads[t] = head;
            depths[t] = depth;
        }

        // A part of n NOTES has n - 1 JOININGS, so the numbers of both parts are known at once.
        private void divide(Chart chart, int t) {
            int i = firsts[t];
            int j = lasts[t];
            int h = heads[t];
            int s = chart.bestSplit(i, j, h);
            boolean onLeft = h <= s;
            int u = onLeft ? chart.bestUnder(s + 1, j, h) : chart.bestUnder(i, s, h);
            splits[t] = s;
            unders[t] = u;
            uppers[u] = t;
            if (i < s) {
                open(t + 1, i, s, onLeft ? h : u, depths[t] + 1);
            }
            if (s + 1 < j) {
                open(t + 1 + s - i, s + 1, j, onLeft ? u : h, depths[t] + 1);
            }
        }

        int unitsAt(Score score, int rule, int t) {
            return score.units(rule, heads[t], unders[t], leftNotes(t), rightNotes(t));
        }

        int unitsOf(Score score, int rule) {
            int sum = 0;
            for (int t = 0; t < joined; t++) {
                sum += unitsAt(score, rule, t);
            }
            return sum;
        }

        int breaksAt(Score score, int t) {
            return score.breaking(heads[t], unders[t], leftNotes(t), rightNotes(t));
        }

        int breaksOfAll(Score score) {
            int sum = 0;
            for (int t = 0; t < joined; t++) {
                sum += breaksAt(score, t);
            }
            return sum;
        }

        private int leftNotes(int t) {
            return splits[t] + 1 - firsts[t];
        }

        private int rightNotes(int t) {
            return lasts[t] - splits[t];
        }

        int greatestDepth() {
            int greatest = 0;
            for (int t = 0; t < joined; t++) {
                greatest = Math.max(greatest, depths[t] + 1);
            }
            return greatest;
        }

        // The greatest part that a NOTE is HEAD of is the one with which it goes UNDER another.
        int rank(int k) {
            return uppers[k] == NONE ? 0 : depths[uppers[k]] + 1;
        }

        int noteOver(int k) {
            return uppers[k] == NONE ? NOTHING : heads[uppers[k]];
        }

        int partFirst(int k) {
            int t = uppers[k];
            if (t == NONE) {
                return first;
            }
            return k <= splits[t] ? firsts[t] : splits[t] + 1;
        }

        int partLast(int k) {
            int t = uppers[k];
            if (t == NONE) {
                return last;
            }
            return k <= splits[t] ? splits[t] : lasts[t];
        }

        int notesUnder(int k) {
            return partLast(k) - partFirst(k);
        }

        int headOverBoth(int k, int other) {
            int head = k;
            if (k != other) {
                int low = Math.min(k, other);
                int high = Math.max(k, other);
                // A part has a higher number than all it is in: the last one met is the least.
                for (int t = 0; t < joined; t++) {
                    if (firsts[t] <= low && high <= lasts[t]) {
                        head = heads[t];
                    }
                }
            }
            return head;
        }

        /** Whether another TREE, its NOTES being that much further, has like SPLITS and HEADS. */
        boolean isLike(Tree that, int further) {
            if (joined != that.joined) {
                return false;
            }
            for (int t = 0; t < joined; t++) {
                if (splits[t] + further != that.splits[t] || heads[t] + further != that.heads[t]) {
                    return false;
                }
            }
            return true;
        }

        private int joiningOf(int i, int j) {
            for (int t = 0; t < joined; t++) {
                if (firsts[t] == i && lasts[t] == j) {
                    return t;
                }
            }
            return NONE;
        }

        int spansNotIn(Tree that) {
            int sum = 0;
            for (int t = 0; t < joined; t++) {
                sum += that.joiningOf(firsts[t], lasts[t]) == NONE ? 1 : 0;
            }
            return sum;
        }

        int headsUnlike(Tree that) {
            int sum = 0;
            for (int t = 0; t < joined; t++) {
                int then = that.joiningOf(firsts[t], lasts[t]);
                sum += then != NONE && that.heads[then] != heads[t] ? 1 : 0;
            }
            return sum;
        }

        int ranksUnlike(Tree that, int count) {
            int sum = 0;
            for (int k = 0; k < count; k++) {
                sum += rank(k) != that.rank(k) ? 1 : 0;
            }
            return sum;
        }
    }

    /** A LEVEL: its NOTES, and of each the first and the last NOTE of its part. */
    private static final class Layer {
        int size = 0;
        final int[] notes = new int[MOST_NOTES];
        final int[] firsts = new int[MOST_NOTES];
        final int[] lasts = new int[MOST_NOTES];

        void cut(Tree tree, int d, int count) {
            size = 0;
            int t = 0;
            int covered = NONE;
            for (int k = 0; k < count; k++) {
                if (k > covered) {
                    // JOININGS of one DEPTH come in the order of their NOTES.
                    while (t < tree.joined && (tree.depths[t] != d || tree.firsts[t] < k)) {
                        t++;
                    }
                    boolean joins = t < tree.joined && tree.firsts[t] == k;
                    covered = joins ? tree.lasts[t] : k;
                    notes[size] = joins ? tree.heads[t] : k;
                    firsts[size] = k;
                    lasts[size] = covered;
                    size++;
                }
            }
        }

        int stepFrom(Score score, int k) {
            return score.pitches[notes[k + 1]] - score.pitches[notes[k]];
        }

        /** Whether another LEVEL goes on from there by the steps of this one. */
        boolean stepsAsIn(Score score, Layer that, int from) {
            for (int k = 0; k + 1 < size; k++) {
                if (stepFrom(score, k) != that.stepFrom(score, from + k)) {
                    return false;
                }
            }
            return true;
        }
    }

    /**
     * What THE TREE would be, were one RULE of another WEIGHT. BREAKS of any one TREE are a line
     * over that WEIGHT, and of TREES that break as little always the same one is BEST. So if BEST
     * of two WEIGHTS lie on one line, they are the same TREE, and BEST of all WEIGHTS between:
     * what is BEST there can't be below the line without being below it at an end, too.
     */
    private static final class Sway {
        private static final int WEIGHTS = MOST_WEIGHT + 1;

        private final Chart chart = new Chart();
        private final Tree tree = new Tree();
        private boolean[] known = new boolean[0];
        private int[] heads = new int[0];
        private int[] breaking = new int[0];
        private int[] slopes = new int[0];
        private final int[] ends = new int[WEIGHTS];

        void forget() {
            for (int t = 0; t < known.length; t++) {
                known[t] = false;
            }
        }

        int breaksWith(Score score, int rule, int weight) {
            learn(score, rule, weight);
            return breaking[rule * WEIGHTS + weight];
        }

        int firmUpTo(Score score, int rule) {
            int now = score.weights[rule];
            int same = now;
            int most = MOST_WEIGHT;
            learn(score, rule, now);
            for (int turn = 0; turn < WEIGHTS && same < most; turn++) {
                int middle = (same + most + 1) / 2;
                learn(score, rule, middle);
                if (isOneLine(rule, now, middle)) {
                    same = middle;
                } else {
                    most = middle - 1;
                }
            }
            return same;
        }

        int firmDownTo(Score score, int rule) {
            int now = score.weights[rule];
            int same = now;
            int least = 0;
            learn(score, rule, now);
            for (int turn = 0; turn < WEIGHTS && least < same; turn++) {
                int middle = (least + same) / 2;
                learn(score, rule, middle);
                if (isOneLine(rule, now, middle)) {
                    same = middle;
                } else {
                    least = middle + 1;
                }
            }
            return same;
        }

        /** All WEIGHTS of the RULE are known by then. */
        int leastWeightFor(int rule, int k) {
            for (int weight = 0; weight < WEIGHTS; weight++) {
                if (heads[rule * WEIGHTS + weight] == k) {
                    return weight;
                }
            }
            return NOTHING;
        }

        private boolean isOneLine(int rule, int weight, int other) {
            int a = rule * WEIGHTS + weight;
            int b = rule * WEIGHTS + other;
            return slopes[a] == slopes[b]
                    && breaking[b] - breaking[a] == slopes[a] * (other - weight);
        }

        private void learn(Score score, int rule, int weight) {
            if (known.length < RULES * WEIGHTS) {
                known = new boolean[RULES * WEIGHTS];
                heads = new int[RULES * WEIGHTS];
                breaking = new int[RULES * WEIGHTS];
                slopes = new int[RULES * WEIGHTS];
            }
            int at = rule * WEIGHTS + weight;
            if (known[at]) {
                return;
            }
            int was = score.weights[rule];
            score.weights[rule] = weight;
            chart.fill(score);
            score.weights[rule] = was;
            tree.build(chart, 0, score.count - 1);
            heads[at] = chart.bestHead(0, score.count - 1);
            breaking[at] = chart.least(0, score.count - 1);
            slopes[at] = tree.unitsOf(score, rule);
            known[at] = true;
        }

        /** From the least WEIGHT up; the ends of what is still to be learned wait in a pile. */
        void learnAll(Score score, int rule) {
            learn(score, rule, 0);
            learn(score, rule, MOST_WEIGHT);
            int low = 0;
            int pile = 1;
            ends[0] = MOST_WEIGHT;
            // Each turn learns a WEIGHT or goes on to an end: at most twice as many turns.
            for (int turn = 0; turn < 2 * WEIGHTS && pile > 0; turn++) {
                int high = ends[pile - 1];
                boolean oneLine = isOneLine(rule, low, high);
                if (oneLine) {
                    copyBetween(rule, low, high);
                }
                if (oneLine || high - low <= 1) {
                    low = high;
                    pile--;
                } else {
                    ends[pile] = (low + high) / 2;
                    learn(score, rule, ends[pile]);
                    pile++;
                }
            }
        }

        private void copyBetween(int rule, int low, int high) {
            int from = rule * WEIGHTS + low;
            for (int t = 1; t < high - low; t++) {
                heads[from + t] = heads[from];
                slopes[from + t] = slopes[from];
                breaking[from + t] = breaking[from] + t * slopes[from];
                known[from + t] = true;
            }
        }
    }

    /** The latest ACTS not undone yet: what kind, of which NOTE or RULE, what was there. */
    private static final class Acts {
        int size = 0;
        final int[] kinds = new int[MOST_UNDONE];
        final int[] places = new int[MOST_UNDONE];
        final int[] olds = new int[MOST_UNDONE];

        void add(int kind, int place, int old) {
            if (size == MOST_UNDONE) {
                forgetFirst();
            }
            kinds[size] = kind;
            places[size] = place;
            olds[size] = old;
            size++;
        }

        private void forgetFirst() {
            for (int t = 0; t + 1 < MOST_UNDONE; t++) {
                kinds[t] = kinds[t + 1];
                places[t] = places[t + 1];
                olds[t] = olds[t + 1];
            }
            size = MOST_UNDONE - 1;
        }
    }
}
