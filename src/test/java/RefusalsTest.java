/**
 * Each sentence of promises 6 to 44 that tells a refusal, and those of terms III: the call answers
 * NONE, TROUBLE is the number that is told first, and all that can be asked is as it was.
 */
public final class RefusalsTest {
    private static final String TEXT = "piece bar 4 beat 2 key 5;note 60 long 2;note 64 long 1;note 99 long 3;"
            + "rule strong 2;rule step 1;rule close 4";
    private static final int[] FAR = {256, 65536, Integer.MIN_VALUE, Integer.MIN_VALUE + 1, Integer.MAX_VALUE};

    private interface Call {
        long of(HeadTrees x);
    }

    /** A call of which one number is still open. */
    private interface CallBy {
        long of(HeadTrees x, int number);
    }

    /** A PIECE of three NOTES, two ACTS, AN ANALYSIS, twenty bytes on THE TAPE. */
    private static HeadTrees ready() {
        HeadTrees x = Check.of(TEXT);
        x.weigh(1, 3);
        x.keep();
        x.pitch(1, 70);
        Check.feed(x, "note", 0);
        return x;
    }

    private static StringBuilder state(HeadTrees x) {
        StringBuilder told = new StringBuilder();
        for (int k = 0; k < 3; k++) {
            told.append(x.size(k)).append(' ').append(x.unlike(k)).append(' ');
            for (int what = 0; what < 7; what++) {
                told.append(x.note(k, what)).append(' ').append(x.joining(k, what)).append(' ');
            }
        }
        for (int what = 0; what < 6; what++) {
            told.append(x.about(what)).append(' ').append(x.weight(what)).append(' ').append(x.breaksOf(what)).append(' ');
        }
        return told.append(x.fault()).append(' ').append(x.keptBreaks()).append(' ').append(x.breaks(0, 2));
    }

    private static void refused(int number, String name, Call call) {
        refusedBy(number, name, call, ready());
    }

    private static void refusedBy(int number, String name, Call call, HeadTrees x) {
        String before = state(x).toString();
        Check.refused(x, name, call.of(x), number);
        String after = state(x).toString();
        Check.due(name + " leaves '" + before + "', not '" + after + "'", before.equals(after), true);
    }

    /** Numbers that are none such: those told, and such as would wrap around. */
    private static void outside(int number, String name, int least, int most, CallBy call) {
        refused(number, name + " " + (least - 1), x -> call.of(x, least - 1));
        refused(number, name + " " + (most + 1), x -> call.of(x, most + 1));
        for (int far : FAR) {
            refused(number, name + " " + far, x -> call.of(x, far));
        }
    }

    private static void withoutPiece(String name, Call call) {
        refusedBy(1, name + " without a PIECE", call, new HeadTrees());
    }

    // ---- the piece

    private static void ofPiece() {
        Check.sentence("6: NONE: 1 (what, too)");
        withoutPiece("about", x -> x.about(0));
        withoutPiece("about", x -> x.about(6));
        outside(1, "about", 0, 5, (x, v) -> x.about(v));
        Check.sentence("7: NONE: 1 (what, too)");
        withoutPiece("note", x -> x.note(0, 0));
        outside(1, "note", 0, 2, (x, v) -> x.note(v, 0));
        outside(1, "note's what", 0, 5, (x, v) -> x.note(0, v));
        refused(1, "both", x -> x.note(3, 6));
        Check.sentence("8: NONE: 1");
        withoutPiece("weight", x -> x.weight(0));
        outside(1, "weight", 0, 5, (x, v) -> x.weight(v));
    }

    // ---- spans

    private interface OfSpan {
        long of(HeadTrees x, int i, int j);
    }

    private static void spans(String name, OfSpan call) {
        withoutPiece(name, x -> call.of(x, 0, 0));
        outside(1, name + " from 0 to", 0, 2, (x, v) -> call.of(x, 0, v));
        outside(1, name + " from 2 to", 2, 2, (x, v) -> call.of(x, 2, v));
        outside(1, name + " up to 2 from", 0, 2, (x, v) -> call.of(x, v, 2));
        outside(1, name + " up to 0 from", 0, 0, (x, v) -> call.of(x, v, 0));
        outside(1, name + " of one NOTE", 0, 2, (x, v) -> call.of(x, v, v));
        refused(1, name + " of all numbers", x -> call.of(x, Integer.MIN_VALUE, Integer.MAX_VALUE));
        refused(1, name + " of none", x -> call.of(x, Integer.MAX_VALUE, Integer.MIN_VALUE));
    }

    private static void ofSpans() {
        Check.sentence("9: NONE: 1");
        spans("breaks", (x, i, j) -> x.breaks(i, j));
        Check.sentence("10: NONE: 1");
        spans("head", (x, i, j) -> x.head(i, j));
        Check.sentence("11: NONE: 1");
        spans("split", (x, i, j) -> x.split(i, j));
        Check.sentence("12: NONE: 1 (HEAD isn't in it, too)");
        spans("breaksBy", (x, i, j) -> x.breaksBy(i, j, i));
        spans("breaksBy", (x, i, j) -> x.breaksBy(i, j, 1));
        outside(1, "HEAD of all", 0, 2, (x, v) -> x.breaksBy(0, 2, v));
        outside(1, "HEAD of the first two", 0, 1, (x, v) -> x.breaksBy(0, 1, v));
        outside(1, "HEAD of the last two", 1, 2, (x, v) -> x.breaksBy(1, 2, v));
        outside(1, "HEAD of one", 1, 1, (x, v) -> x.breaksBy(1, 1, v));
        Check.sentence("13: -1: 1");
        spans("ways", (x, i, j) -> x.ways(i, j));
        Check.sentence("14: NONE: 1 (SPLIT, too)");
        spans("splitCost", (x, i, j) -> x.splitCost(i, j, i));
        spans("splitCost", (x, i, j) -> x.splitCost(i, j, 1));
        outside(1, "SPLIT of all", 0, 1, (x, v) -> x.splitCost(0, 2, v));
        outside(1, "SPLIT of the last two", 1, 1, (x, v) -> x.splitCost(1, 2, v));
        for (int k = 0; k < 3; k++) {
            int v = k;
            refused(1, "SPLIT of one NOTE", x -> x.splitCost(v, v, v));
        }
        Check.sentence("15: NONE: 1");
        spans("second", (x, i, j) -> x.second(i, j));
        Check.sentence("16: NONE: 1 (unlike NOTES, RULE)");
        withoutPiece("broken", x -> x.broken(0, 0, 1, 1, 1));
        outside(1, "RULE", 0, 5, (x, v) -> x.broken(v, 0, 1, 1, 1));
        outside(1, "HEAD", 0, 2, (x, v) -> x.broken(0, v, 1, 1, 1));
        outside(1, "UNDER", 0, 2, (x, v) -> x.broken(0, 0, v, 1, 1));
        for (int k = 0; k < 3; k++) {
            int v = k;
            refused(1, "one NOTE twice", x -> x.broken(0, v, v, 1, 1));
        }
        Check.sentence("16: 2 (1 .. 23 each)");
        outside(2, "left", 1, 23, (x, v) -> x.broken(0, 0, 1, v, 1));
        outside(2, "right", 1, 23, (x, v) -> x.broken(0, 0, 1, 1, v));
    }

    // ---- the tree

    private static void ofTree() {
        Check.sentence("17: NONE: 1 (no PIECE)");
        withoutPiece("joinings", x -> x.joinings());
        Check.sentence("18: NONE: 1 (i, what, too)");
        withoutPiece("joining", x -> x.joining(0, 0));
        outside(1, "joining", 0, 1, (x, v) -> x.joining(v, 0));
        outside(1, "joining's what", 0, 6, (x, v) -> x.joining(0, v));
        HeadTrees one = Check.of("piece bar 4 beat 2 key 5;note 60 long 2");
        Check.refused(one, "joining of one NOTE", one.joining(0, 0), 1);
        Check.sentence("19: NONE: 1");
        withoutPiece("breaksOf", x -> x.breaksOf(0));
        outside(1, "breaksOf", 0, 5, (x, v) -> x.breaksOf(v));
        Check.sentence("20: NONE: 1 (no PIECE)");
        withoutPiece("deepest", x -> x.deepest());
        Check.sentence("24: NONE: 1 (what, too)");
        withoutPiece("reach", x -> x.reach(0, 0));
        outside(1, "reach", 0, 2, (x, v) -> x.reach(v, 0));
        outside(1, "reach's what", 0, 2, (x, v) -> x.reach(0, v));
        Check.sentence("28: NONE: 1");
        withoutPiece("over", x -> x.over(0, 0));
        outside(1, "over", 0, 2, (x, v) -> x.over(v, 0));
        outside(1, "over's other", 0, 2, (x, v) -> x.over(0, v));
        outside(1, "over, both", 0, 2, (x, v) -> x.over(v, v));
        Check.sentence("29: NONE: 1");
        withoutPiece("under", x -> x.under(0));
        outside(1, "under", 0, 2, (x, v) -> x.under(v));
    }

    private static void levels(int promise, String name, CallBy call) {
        Check.sentence(promise + ": NONE: 1 (no PIECE); 2");
        withoutPiece(name, x -> call.of(x, 0));
        withoutPiece(name, x -> call.of(x, -1));
        Check.due("the greatest DEPTH", ready().deepest(), 2);
        outside(2, name, 0, 2, call);
        HeadTrees one = Check.of("piece bar 4 beat 2 key 5;note 60 long 2");
        Check.refused(one, name + " of one NOTE", call.of(one, 1), 2);
    }

    private static void ofLevels() {
        levels(21, "level", (x, v) -> x.level(v));
        levels(22, "levelNote", (x, v) -> x.levelNote(v, 0, 0));
        levels(23, "path", (x, v) -> x.path(v));
        levels(25, "climax", (x, v) -> x.climax(v));
        levels(26, "widest", (x, v) -> x.widest(v));
        levels(27, "echo of", (x, v) -> x.echo(v, 0));
        levels(27, "echo in", (x, v) -> x.echo(0, v));
        levels(27, "echo of and in", (x, v) -> x.echo(v, v));
        Check.sentence("22: 1 (k, what)");
        outside(1, "k of LEVEL 0", 0, 0, (x, v) -> x.levelNote(0, v, 0));
        outside(1, "k of LEVEL 1", 0, 1, (x, v) -> x.levelNote(1, v, 0));
        outside(1, "k of LEVEL 2", 0, 2, (x, v) -> x.levelNote(2, v, 0));
        outside(1, "what", 0, 2, (x, v) -> x.levelNote(2, 2, v));
    }

    // ---- by other weights, beside one another

    private static void ofWeights() {
        Check.sentence("30: NONE: 1");
        withoutPiece("firm", x -> x.firm(0, true));
        outside(1, "firm up", 0, 5, (x, v) -> x.firm(v, true));
        outside(1, "firm down", 0, 5, (x, v) -> x.firm(v, false));
        Check.sentence("31: NONE: 1");
        withoutPiece("sways", x -> x.sways(0, 0));
        outside(1, "sways", 0, 5, (x, v) -> x.sways(v, 0));
        outside(1, "NOTE of sways", 0, 2, (x, v) -> x.sways(0, v));
        Check.sentence("32: NONE: 1");
        withoutPiece("swayed", x -> x.swayed(0, 0));
        outside(1, "swayed", 0, 5, (x, v) -> x.swayed(v, 0));
        Check.sentence("32: 2 (0 .. 99)");
        outside(2, "WEIGHT of swayed", 0, 99, (x, v) -> x.swayed(5, v));
    }

    private interface OfTwo {
        long of(HeadTrees x, int i, int j, int n);
    }

    private static void twoSpans(String name, OfTwo call) {
        withoutPiece(name, x -> call.of(x, 0, 0, 1));
        withoutPiece(name, x -> call.of(x, 0, 0, 0));
        outside(1, name + ", the one", 0, 2, (x, v) -> call.of(x, v, 0, 1));
        outside(1, name + ", the other", 0, 2, (x, v) -> call.of(x, 0, v, 1));
        outside(1, name + ", the one of two", 0, 1, (x, v) -> call.of(x, v, 0, 2));
        outside(1, name + ", the other of two", 0, 1, (x, v) -> call.of(x, 0, v, 2));
        outside(1, name + ", the same of three", 0, 0, (x, v) -> call.of(x, v, v, 3));
        outside(1, name + ", NOTES", 1, 3, (x, v) -> call.of(x, 0, 0, v));
        outside(1, name + ", NOTES from 1", 1, 2, (x, v) -> call.of(x, 1, 1, v));
        refused(1, name + ", a sum that wraps around", x -> call.of(x, 1, 1, Integer.MAX_VALUE));
        refused(1, name + ", a sum that wraps around", x -> call.of(x, Integer.MAX_VALUE, 2, Integer.MAX_VALUE));
        refused(1, name + ", a sum that wraps around", x -> call.of(x, Integer.MIN_VALUE, 0, Integer.MIN_VALUE));
        refused(1, name + ", no NOTES behind the last", x -> call.of(x, 3, 3, 0));
    }

    private static void ofTwo() {
        Check.sentence("33: NONE: 1 (either isn't one)");
        twoSpans("twins", (x, i, j, n) -> x.twins(i, j, n));
        Check.sentence("34: NONE: 1 (what, too)");
        withoutPiece("twin", x -> x.twin(0));
        outside(1, "twin", 0, 2, (x, v) -> x.twin(v));
        Check.sentence("35: NONE: 1");
        twoSpans("alike", (x, i, j, n) -> x.alike(i, j, n));
        Check.sentence("36: NONE: 1 (no PIECE)");
        withoutPiece("keep", x -> x.keep());
        Check.sentence("37: NONE: 1 (none is kept; what)");
        withoutPiece("unlike", x -> x.unlike(0));
        refusedBy(1, "unlike, none being kept", x -> x.unlike(0), Check.of(TEXT));
        outside(1, "unlike", 0, 2, (x, v) -> x.unlike(v));
        Check.sentence("38: NONE: 1 (none is kept)");
        withoutPiece("keptBreaks", x -> x.keptBreaks());
        refusedBy(1, "keptBreaks, none being kept", x -> x.keptBreaks(), Check.of(TEXT));
    }

    // ---- acts

    private static void ofActs() {
        Check.sentence("39: NONE: 1; 2 (0 .. 99)");
        withoutPiece("pitch", x -> x.pitch(0, 0));
        outside(1, "NOTE", 0, 2, (x, v) -> x.pitch(v, 0));
        outside(2, "PITCH", 0, 99, (x, v) -> x.pitch(0, v));
        Check.sentence("40: NONE: 1; 2 (1 .. 64)");
        withoutPiece("last", x -> x.last(0, 1));
        outside(1, "NOTE", 0, 2, (x, v) -> x.last(v, 1));
        outside(2, "LONG", 1, 64, (x, v) -> x.last(0, v));
        Check.sentence("41: NONE: 1; 2 (0 .. 99)");
        withoutPiece("weigh", x -> x.weigh(0, 0));
        outside(1, "RULE", 0, 5, (x, v) -> x.weigh(v, 0));
        outside(2, "WEIGHT", 0, 99, (x, v) -> x.weigh(0, v));
        Check.sentence("42: NONE: 1 (no PIECE); 2 (0 .. 11)");
        withoutPiece("key", x -> x.key(0));
        outside(2, "KEY", 0, 11, (x, v) -> x.key(v));
        Check.sentence("43: NONE: 1 (no PIECE); 2; 5 (some would leave 0 .. 99)");
        withoutPiece("move", x -> x.move(0));
        outside(2, "move", -99, 99, (x, v) -> x.move(v));
        refused(5, "move(1)", x -> x.move(1));
        refused(5, "move(99)", x -> x.move(99));
        refused(5, "move(-61)", x -> x.move(-61));
        refused(5, "move(-99)", x -> x.move(-99));
        Check.sentence("44: false: 1 (there is nothing)");
        withoutPiece("undo", x -> x.undo() ? 1 : -1);
        refusedBy(1, "undo", x -> x.undo() ? 1 : -1, Check.of(TEXT));
    }

    private static void inOrder() {
        Check.sentence("III: Refusals are met in the order in which a call tells them");
        refused(1, "broken: 1 ahead of 2", x -> x.broken(6, 0, 1, 0, 24));
        refused(1, "broken: 1 ahead of 2", x -> x.broken(0, 1, 1, 0, 24));
        refused(1, "broken: 1 ahead of 2", x -> x.broken(0, 3, 1, 0, 24));
        refused(2, "levelNote: 2 ahead of 1", x -> x.levelNote(3, 9, 9));
        refused(2, "levelNote: 2 ahead of 1", x -> x.levelNote(-1, -1, -1));
        withoutPiece("levelNote: 1 ahead of 2", x -> x.levelNote(-1, 0, 0));
        refused(1, "swayed: 1 ahead of 2", x -> x.swayed(6, 100));
        refused(1, "pitch: 1 ahead of 2", x -> x.pitch(3, 100));
        refused(1, "last: 1 ahead of 2", x -> x.last(3, 0));
        refused(1, "weigh: 1 ahead of 2", x -> x.weigh(6, 100));
        withoutPiece("key: 1 ahead of 2", x -> x.key(12));
        withoutPiece("move: 1 ahead of 2", x -> x.move(100));
        refused(2, "move: 2 ahead of 5", x -> x.move(100));
        withoutPiece("swayed: 1 ahead of 2", x -> x.swayed(0, 100));
        withoutPiece("broken: 1 ahead of 2", x -> x.broken(0, 0, 1, 0, 0));
        withoutPiece("echo: 1 ahead of 2", x -> x.echo(-1, -1));
        HeadTrees x = ready();
        Check.refused(x, "piece: 2 ahead of 4", x.piece(21), 2);
    }

    public static void main(String[] args) {
        ofPiece();
        ofSpans();
        ofTree();
        ofLevels();
        ofWeights();
        ofTwo();
        ofActs();
        inOrder();
        Check.end("RefusalsTest");
    }
}
