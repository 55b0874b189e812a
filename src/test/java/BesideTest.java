/** Promises 33 to 38: TWINS, SPANS that are alike, AN ANALYSIS kept. */
public final class BesideTest {
    private static final String STEPS = "piece bar 4 beat 2 key 0;note 60 long 2;note 62 long 2;"
            + "note 72 long 2;note 74 long 2;note 60 long 4;rule even 2;rule stable 3;rule strong 1";

    private static void twins() {
        HeadTrees x = Check.of(STEPS);
        Check.granted(x, "twins(0, 2, 2)", x.twins(0, 2, 2), 1);
        Check.granted(x, "twins(2, 0, 2)", x.twins(2, 0, 2), 1);
        Check.granted(x, "twins(1, 3, 1)", x.twins(1, 3, 1), 1);
        Check.granted(x, "twins(0, 1, 1)", x.twins(0, 1, 1), 0);
        Check.granted(x, "twins(0, 2, 3), the last NOTE", x.twins(0, 2, 3), 0);
        Check.granted(x, "twins(2, 0, 3), the last NOTE", x.twins(2, 0, 3), 0);
        Check.granted(x, "twins(4, 4, 1), the same", x.twins(4, 4, 1), 1);
        Check.granted(x, "twins(0, 0, 5), the same", x.twins(0, 0, 5), 1);
        int[][] wrong = {{0, 0, 0}, {0, 0, -1}, {-1, 0, 1}, {0, -1, 1}, {0, 4, 2}, {4, 0, 2}, {0, 0, 6},
            {1, 1, Integer.MAX_VALUE}, {Integer.MAX_VALUE, 0, 1}, {0, Integer.MAX_VALUE, 2},
            {Integer.MIN_VALUE, 0, Integer.MIN_VALUE}};
        for (int[] w : wrong) {
            Check.refused(x, "twins of no SPANS", x.twins(w[0], w[1], w[2]), 1);
            Check.refused(x, "alike of no SPANS", x.alike(w[0], w[1], w[2]), 1);
        }
    }

    /** NOTES that are unlike in just one way. */
    private static void unlikeNotes() {
        String even = "piece bar 1 beat 1 key 0";
        HeadTrees x = Check.of(even + ";note 60 long 1;note 60 long 2;note 60 long 1;note 60 long 1");
        Check.due("another LONG", x.twins(0, 1, 1), 0);
        Check.due("alike", x.twins(0, 2, 1), 1);
        x = Check.of("piece bar 4 beat 1 key 0;note 60 long 2;note 60 long 2;note 60 long 2;note 60 long 2");
        Check.due("another STRENGTH", x.twins(0, 1, 1), 0);
        Check.due("alike", x.twins(0, 2, 1), 1);
        x = Check.of(even + ";note 60 long 1;note 61 long 1;note 72 long 1;note 72 long 1");
        Check.due("another STABLE", x.twins(0, 1, 1), 0);
        Check.due("alike", x.twins(0, 2, 1), 1);
        x = Check.of(even + ";note 61 long 1;note 62 long 1;note 63 long 1;note 66 long 1;note 66 long 1");
        Check.due("another step", x.twins(0, 2, 2), 0);
        Check.due("alike", x.twins(0, 2, 1), 1);
        Check.due("SPANS that overlap", x.twins(0, 1, 2), 1);
    }

    private static void twin() {
        HeadTrees x = Check.of(STEPS);
        Check.granted(x, "twin(0)", x.twin(0), 2);
        Check.granted(x, "twin(1)", x.twin(1), 0);
        Check.granted(x, "twin(2)", x.twin(2), 2);
        Check.refused(x, "twin(3)", x.twin(3), 1);
        Check.refused(x, "twin(-1)", x.twin(-1), 1);
        x = Check.of("piece bar 1 beat 1 key 0;note 1 long 9;note 1 long 2;note 1 long 3;note 1 long 2;"
                + "note 1 long 3;note 1 long 2;note 1 long 3;note 1 long 2");
        Check.due("the least first", x.twin(1), 1);
        Check.due("then the least other", x.twin(2), 3);
        Check.due("not those that overlap, nor the last NOTE", x.twin(0), 2);
        x = Check.of("piece bar 1 beat 1 key 0;note 1 long 3;note 1 long 1;note 1 long 2;note 1 long 1;"
                + "note 1 long 7");
        Check.granted(x, "TWINS of one NOTE", x.twin(0), 1);
        Check.granted(x, "the one", x.twin(1), 1);
        Check.granted(x, "the other", x.twin(2), 3);
        x = Check.of("piece bar 1 beat 1 key 0;note 1 long 1;note 1 long 2;note 1 long 1");
        Check.granted(x, "the last NOTE has no TWIN", x.twin(0), 0);
        Check.granted(x, "twin(1) without any", x.twin(1), -2);
        Check.granted(x, "twin(2) without any", x.twin(2), -2);
        x = new HeadTrees();
        Check.refused(x, "twin without a PIECE", x.twin(0), 1);
        Check.refused(x, "twins without a PIECE", x.twins(0, 0, 1), 1);
        Check.refused(x, "alike without a PIECE", x.alike(0, 0, 1), 1);
    }

    private static void alike() {
        HeadTrees x = Check.of(STEPS);
        Check.granted(x, "alike(0, 2, 2)", x.alike(0, 2, 2), 1);
        x = Check.of("piece bar 1 beat 1 key 0;note 10 long 1;note 50 long 1;note 12 long 1;note 50 long 1;"
                + "note 10 long 1;rule step 1");
        Check.granted(x, "like HEADS, other SPLITS", x.alike(0, 2, 3), 0);
        Check.granted(x, "alike(0, 2, 2)", x.alike(0, 2, 2), 1);
        Check.granted(x, "alike(2, 0, 2)", x.alike(2, 0, 2), 1);
        Check.granted(x, "one NOTE", x.alike(0, 4, 1), 1);
        Check.granted(x, "the same", x.alike(0, 0, 5), 1);
        x = Check.of("piece bar 1 beat 1 key 0;note 10 long 3;note 10 long 1;note 10 long 2;rule long 1");
        Check.granted(x, "like SPLITS, other HEADS", x.alike(0, 1, 2), 0);
        x = Check.of("piece bar 1 beat 1 key 0;note 10 long 9;note 10 long 2;note 10 long 1;"
                + "note 10 long 9;note 10 long 1;note 10 long 2;rule long 1");
        Check.granted(x, "other HEADS further down", x.alike(0, 3, 3), 0);
    }

    private static void kept() {
        HeadTrees x = new HeadTrees();
        Check.refused(x, "keep without a PIECE", x.keep(), 1);
        Check.read(x, "piece bar 4 beat 1 key 0;note 60 long 2;note 62 long 1;note 64 long 1;"
                + "note 67 long 4;rule even 9;rule long 1");
        Check.refused(x, "unlike, none kept", x.unlike(0), 1);
        Check.refused(x, "keptBreaks, none kept", x.keptBreaks(), 1);
        Check.due("size(2)", x.size(2), 0);
        Check.granted(x, "keep()", x.keep(), 0);
        Check.due("size(2)", x.size(2), 1);
        Check.due("no ACT", x.size(1), 0);
        unlike(x, 0, 0, 0);
        x.weigh(4, 0);
        unlike(x, 1, 0, 1);
        Check.granted(x, "keptBreaks()", x.keptBreaks(), 0);
        x.weigh(1, 5);
        x.last(3, 1);
        unlike(x, 1, 2, 3);
        Check.granted(x, "keptBreaks()", x.keptBreaks(), 5);
        Check.refused(x, "unlike(3)", x.unlike(3), 1);
        Check.refused(x, "unlike(-1)", x.unlike(-1), 1);
        x.undo();
        x.undo();
        x.undo();
        unlike(x, 0, 0, 0);
        x.weigh(4, 0);
        Check.granted(x, "keep() again", x.keep(), 0);
        unlike(x, 0, 0, 0);
        x.undo();
        unlike(x, 1, 0, 1);
        Check.granted(x, "keptBreaks()", x.keptBreaks(), 27);
        x = Check.of("piece bar 4 beat 1 key 0;note 60 long 2;note 72 long 1;rule step 2");
        Check.granted(x, "keep() of what breaks", x.keep(), 20);
        x.pitch(1, 73);
        Check.granted(x, "keptBreaks()", x.keptBreaks(), 22);
    }

    private static void unlike(HeadTrees x, int spans, int heads, int ranks) {
        Check.granted(x, "unlike(0)", x.unlike(0), spans);
        Check.granted(x, "unlike(1)", x.unlike(1), heads);
        Check.granted(x, "unlike(2)", x.unlike(2), ranks);
    }

    public static void main(String[] args) {
        twins();
        unlikeNotes();
        twin();
        alike();
        kept();
        Check.end("BesideTest");
    }
}
