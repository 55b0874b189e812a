import java.util.Random;

/** Beside one another: each sentence of terms II, and of promises 33 to 38, that names a boundary. */
public final class BesideBoundsTest {
    private static final String EVEN = "piece bar 1 beat 1 key 0";

    private static String alike(int count) {
        return EVEN + ";note 60 long 1".repeat(count);
    }

    private static String pitches(int... pitches) {
        StringBuilder text = new StringBuilder(EVEN);
        for (int pitch : pitches) {
            text.append(";note ").append(pitch).append(" long 1");
        }
        return text.toString();
    }

    private static void twinsAre(String what, String text, int i, int j, int n, int want) {
        HeadTrees x = Check.of(text);
        Check.granted(x, what + ": twins(" + i + ", " + j + ", " + n + ")", x.twins(i, j, n), want);
        Check.granted(x, what + ": twins(" + j + ", " + i + ", " + n + ")", x.twins(j, i, n), want);
    }

    // ---- terms II

    private static void noteByNote() {
        Check.sentence("II: TWINS: if NOTE by NOTE LONG, STRENGTH, STABLE are alike");
        twinsAre("alike", alike(5), 0, 2, 2, 1);
        twinsAre("LONG of the first", EVEN + ";note 60 long 2;note 60 long 1;note 60 long 1;note 60 long 1;note 60 long 1",
                0, 2, 2, 0);
        twinsAre("LONG of the last", EVEN + ";note 60 long 1;note 60 long 1;note 60 long 1;note 60 long 2;note 60 long 1",
                0, 2, 2, 0);
        String bars = "piece bar 4 beat 4 key 0" + ";note 60 long 1".repeat(9);
        twinsAre("a bar on", bars, 0, 4, 4, 1);
        twinsAre("STRENGTH 3, 0", bars, 0, 1, 1, 0);
        twinsAre("STRENGTH 3, 2", bars, 0, 2, 1, 0);
        twinsAre("STRENGTH 0, 0", bars, 1, 3, 1, 1);
        twinsAre("STRENGTH of the last", bars, 1, 3, 2, 0);
        twinsAre("STABLE 2, 1", pitches(60, 64, 60), 0, 1, 1, 0);
        twinsAre("STABLE 1, 1", pitches(67, 64, 60), 0, 1, 1, 1);
        twinsAre("STABLE of the last", pitches(61, 62, 63, 64, 60), 0, 2, 2, 0);
        Check.sentence("II: the PITCHES all by one and the same step apart");
        twinsAre("by none", pitches(60, 62, 60, 62, 60), 0, 2, 2, 1);
        twinsAre("up", pitches(60, 62, 72, 74, 60), 0, 2, 2, 1);
        twinsAre("down", pitches(72, 74, 60, 62, 60), 0, 2, 2, 1);
        twinsAre("far", pitches(0, 2, 96, 98, 60), 0, 2, 2, 1);
        twinsAre("by other steps", pitches(61, 62, 61, 63, 60), 0, 2, 2, 0);
        twinsAre("by a step and its like down", pitches(61, 63, 63, 61, 60), 0, 2, 2, 0);
        twinsAre("one NOTE, by any step", pitches(1, 99, 60), 0, 1, 1, 1);
        Check.sentence("II: and neither has the PIECE's last NOTE");
        twinsAre("not the last", alike(5), 0, 3, 1, 1);
        twinsAre("the last", alike(5), 0, 4, 1, 0);
        twinsAre("not the last", alike(5), 0, 2, 2, 1);
        twinsAre("the last of two", alike(5), 0, 3, 2, 0);
        twinsAre("the last of four, which overlap", alike(5), 0, 1, 4, 0);
        twinsAre("which overlap", alike(5), 0, 1, 3, 1);
        Check.sentence("II: (or both, being the same)");
        twinsAre("the last", alike(5), 4, 4, 1, 1);
        twinsAre("all", alike(5), 0, 0, 5, 1);
        twinsAre("the first", alike(5), 0, 0, 1, 1);
        twinsAre("of one NOTE", alike(1), 0, 0, 1, 1);
    }

    private static String anyPiece(Random random) {
        int notes = 5 + random.nextInt(9);
        StringBuilder text = new StringBuilder("piece bar " + (1 + random.nextInt(3)) + " beat 1 key 0");
        for (int k = 0; k < notes; k++) {
            text.append(";note ").append(60 + 12 * random.nextInt(2) + random.nextInt(2));
            text.append(" long ").append(1 + random.nextInt(2));
        }
        for (String name : new String[] {"strong", "long", "stable", "step", "even", "close"}) {
            text.append(";rule ").append(name).append(' ').append(random.nextInt(5));
        }
        return text.toString();
    }

    private static void twinsHaveLikeTrees() {
        Check.sentence("II: (Their BEST TREES are alike then.)");
        Random random = new Random(33);
        for (int turn = 0; turn < 300; turn++) {
            HeadTrees x = Check.of(anyPiece(random));
            int count = x.about(3);
            for (int call = 0; call < 200; call++) {
                int n = 1 + random.nextInt(4);
                int i = random.nextInt(count - n + 1);
                int j = random.nextInt(count - n + 1);
                if (x.twins(i, j, n) == 1) {
                    Check.due("alike(" + i + ", " + j + ", " + n + ")", x.alike(i, j, n), 1);
                }
            }
        }
    }

    // ---- promises 33 to 35

    private static void twins() {
        Check.sentence("33: 1 if SPANS of n NOTES from i and from j are TWINS, 0");
        HeadTrees x = Check.of(alike(24));
        Check.granted(x, "of 1", x.twins(0, 22, 1), 1);
        Check.granted(x, "of 22", x.twins(0, 1, 22), 1);
        Check.granted(x, "of 23", x.twins(0, 1, 23), 0);
        Check.granted(x, "of 24", x.twins(0, 0, 24), 1);
        Check.granted(x, "up to the last", x.twins(0, 23, 1), 0);
    }

    private static void twinIs(String text, int notes, int one, int other) {
        HeadTrees x = Check.of(text);
        Check.granted(x, "twin(0)", x.twin(0), notes);
        Check.granted(x, "twin(1)", x.twin(1), one);
        Check.granted(x, "twin(2)", x.twin(2), other);
    }

    private static void twin() {
        Check.sentence("34: The longest SPANS that are TWINS and don't overlap");
        twinIs(alike(3), 1, 0, 1);
        twinIs(alike(4), 1, 0, 1);
        twinIs(alike(5), 2, 0, 2);
        twinIs(alike(22), 10, 0, 10);
        twinIs(alike(23), 11, 0, 11);
        twinIs(alike(24), 11, 0, 11);
        Check.sentence("34: 0 without any; -2 for 1 and 2 without any");
        twinIs(alike(1), 0, -2, -2);
        twinIs(alike(2), 0, -2, -2);
        twinIs(pitches(60, 61, 64, 60), 0, -2, -2);
        Check.sentence("34: of like ones those with the least first");
        twinIs(pitches(60, 61, 64, 61, 64, 60, 60), 2, 1, 3);
        twinIs(pitches(60, 64, 61, 61, 60, 60), 1, 0, 4);
        Check.sentence("34: then the least other");
        twinIs(pitches(60, 61, 64, 60, 61, 67, 60, 61, 99), 2, 0, 3);
        twinIs(pitches(61, 60, 62, 63, 60), 1, 0, 2);
    }

    private static void alikeSpans() {
        Check.sentence("35: 1 if BEST TREES of SPANS of n NOTES from i and from j have like SPLITS and HEADS, 0");
        HeadTrees x = Check.of(alike(24) + ";rule close 1");
        Check.granted(x, "one NOTE", x.alike(0, 23, 1), 1);
        Check.granted(x, "23 NOTES", x.alike(0, 1, 23), 0);
        Check.granted(x, "22 NOTES", x.alike(0, 1, 22), 1);
        Check.granted(x, "all", x.alike(0, 0, 24), 1);
        Check.granted(x, "two, of which one is the last", x.alike(22, 0, 2), 0);
        Check.granted(x, "two, of which none is", x.alike(21, 0, 2), 1);
        x.weigh(5, 0);
        Check.granted(x, "two, the last one, too", x.alike(22, 0, 2), 1);
    }

    // ---- promises 36 to 38

    private static void unlikeIs(HeadTrees x, int... want) {
        for (int what = 0; what < 3; what++) {
            Check.granted(x, "unlike " + what, x.unlike(what), want[what]);
        }
    }

    private static void keep() {
        Check.sentence("36: AN ANALYSIS is kept (the one ahead is no more)");
        HeadTrees x = Check.of(alike(4) + ";rule close 1");
        Check.granted(x, "keep()", x.keep(), 0);
        x.weigh(5, 0);
        unlikeIs(x, 0, 3, 4);
        Check.granted(x, "keep() again", x.keep(), 0);
        unlikeIs(x, 0, 0, 0);
        x.undo();
        unlikeIs(x, 0, 3, 4);
        Check.due("keep() is no ACT", x.undo(), false);
        Check.due("size(2)", x.size(2), 1);
        Check.sentence("36: BREAKS of THE TREE");
        Check.due("of one NOTE", Check.of(alike(1) + ";rule close 9").keep(), 0);
        Check.due("of what breaks", Check.of(pitches(0, 99) + ";rule step 99").keep(), 97 * 99);
    }

    private static void unlike() {
        Check.sentence("37: 0 JOININGS whose SPAN wasn't one then, 1 those whose SPAN was one, with another HEAD");
        HeadTrees x = Check.of(alike(1));
        x.keep();
        unlikeIs(x, 0, 0, 0);
        x = Check.of(alike(24));
        x.keep();
        unlikeIs(x, 0, 0, 0);
        x.weigh(5, 1);
        unlikeIs(x, 0, 23, 24);
        x.weigh(5, 0);
        x.weigh(4, 1);
        Check.due("only 24, 12, 6, 3 and 2 NOTES up to the last were a SPAN", x.unlike(0), 18);
        Check.due("with the same HEADS", x.unlike(1), 0);
        Check.sentence("37: 2 NOTES of another RANK");
        x = Check.of(alike(4));
        x.keep();
        x.weigh(4, 1);
        unlikeIs(x, 1, 0, 3);
    }

    private static void keptBreaks() {
        Check.sentence("38: BREAKS that the kept TREE has now");
        HeadTrees x = Check.of("piece bar 4 beat 2 key 0;note 60 long 1;note 60 long 1");
        x.keep();
        Check.granted(x, "nothing breaks", x.keptBreaks(), 0);
        x.weigh(5, 7);
        Check.granted(x, "by close", x.keptBreaks(), 7);
        Check.due("THE TREE breaks nothing", x.breaks(0, 1), 0);
        x.weigh(3, 1);
        x.pitch(1, 99);
        Check.granted(x, "by step", x.keptBreaks(), 7 + 37);
        x.weigh(1, 2);
        x.last(1, 64);
        Check.granted(x, "by long", x.keptBreaks(), 7 + 37 + 126);
        x.weigh(2, 5);
        x.key(3);
        Check.granted(x, "by stable", x.keptBreaks(), 7 + 37 + 126 + 10);
        x.undo();
        Check.granted(x, "undone", x.keptBreaks(), 7 + 37 + 126);
        x = Check.of(alike(1));
        x.keep();
        x.weigh(5, 99);
        Check.granted(x, "of one NOTE", x.keptBreaks(), 0);
    }

    public static void main(String[] args) {
        noteByNote();
        twinsHaveLikeTrees();
        twins();
        twin();
        alikeSpans();
        keep();
        unlike();
        keptBreaks();
        Check.end("BesideBoundsTest");
    }
}
