/** Promises 9 to 16: BEST of SPANS, with each HEAD, at each SPLIT, and what a joining breaks. */
public final class SpansTest {
    private static final String HEAD = "piece bar 4 beat 1 key 0";

    /** Apart by more than 2: NOTES 0 and 1 by 8, 1 and 2 by 5, 0 and 2 by 1. */
    private static void threeNotes() {
        HeadTrees x = Check.of(HEAD + ";note 10 long 1;note 20 long 1;note 13 long 1;rule step 1");
        Check.granted(x, "breaks(0, 2)", x.breaks(0, 2), 6);
        Check.granted(x, "head(0, 2)", x.head(0, 2), 0);
        Check.granted(x, "split(0, 2)", x.split(0, 2), 0);
        Check.granted(x, "breaksBy(0, 2, 0)", x.breaksBy(0, 2, 0), 6);
        Check.granted(x, "breaksBy(0, 2, 1)", x.breaksBy(0, 2, 1), 13);
        Check.granted(x, "breaksBy(0, 2, 2)", x.breaksBy(0, 2, 2), 6);
        Check.granted(x, "ways(0, 2)", x.ways(0, 2), 2);
        Check.granted(x, "splitCost(0, 2, 0)", x.splitCost(0, 2, 0), 0);
        Check.granted(x, "splitCost(0, 2, 1)", x.splitCost(0, 2, 1), 3);
        Check.granted(x, "second(0, 2)", x.second(0, 2), 2);
        Check.granted(x, "breaks(0, 1)", x.breaks(0, 1), 8);
        Check.granted(x, "breaks(1, 2)", x.breaks(1, 2), 5);
        Check.granted(x, "head(1, 2)", x.head(1, 2), 1);
        Check.granted(x, "split(1, 2)", x.split(1, 2), 1);
        Check.granted(x, "second(1, 2)", x.second(1, 2), 2);
        Check.granted(x, "ways(1, 2)", x.ways(1, 2), 2);
        Check.granted(x, "splitCost(1, 2, 1)", x.splitCost(1, 2, 1), 0);
        oneNote(x);
        wrongSpans(x, 3);
    }

    private static void oneNote(HeadTrees x) {
        Check.granted(x, "breaks(1, 1)", x.breaks(1, 1), 0);
        Check.granted(x, "head(1, 1)", x.head(1, 1), 1);
        Check.granted(x, "split(1, 1)", x.split(1, 1), -2);
        Check.granted(x, "breaksBy(1, 1, 1)", x.breaksBy(1, 1, 1), 0);
        Check.granted(x, "ways(1, 1)", x.ways(1, 1), 1);
        Check.granted(x, "second(1, 1)", x.second(1, 1), -2);
        Check.refused(x, "splitCost(1, 1, 1)", x.splitCost(1, 1, 1), 1);
    }

    private static void wrongSpans(HeadTrees x, int n) {
        int[][] wrong = {
            {-1, 0}, {0, n}, {1, 0}, {n, n}, {-1, -1}, {Integer.MIN_VALUE, Integer.MAX_VALUE}};
        for (int[] span : wrong) {
            int i = span[0];
            int j = span[1];
            Check.refused(x, "breaks of no SPAN", x.breaks(i, j), 1);
            Check.refused(x, "head of no SPAN", x.head(i, j), 1);
            Check.refused(x, "split of no SPAN", x.split(i, j), 1);
            Check.refused(x, "breaksBy of no SPAN", x.breaksBy(i, j, 0), 1);
            Check.refused(x, "ways of no SPAN", x.ways(i, j), 1);
            Check.refused(x, "splitCost of no SPAN", x.splitCost(i, j, 0), 1);
            Check.refused(x, "second of no SPAN", x.second(i, j), 1);
        }
        Check.refused(x, "breaksBy by a HEAD ahead", x.breaksBy(1, 2, 0), 1);
        Check.refused(x, "breaksBy by a HEAD behind", x.breaksBy(0, 1, 2), 1);
        Check.refused(x, "splitCost at no SPLIT", x.splitCost(0, 2, 2), 1);
        Check.refused(x, "splitCost at no SPLIT", x.splitCost(1, 2, 0), 1);
    }

    /** Nothing breaks: all TREES are alike, and the least of all is BEST. */
    private static void withoutRules() {
        StringBuilder text = new StringBuilder(HEAD);
        for (int k = 0; k < 24; k++) {
            text.append(";note ").append(4 * k).append(" long 1");
        }
        HeadTrees x = Check.of(text.toString());
        long[] catalan = new long[24];
        catalan[0] = 1;
        for (int n = 1; n < 24; n++) {
            catalan[n] = catalan[n - 1] * (4L * n - 2) / (n + 1);
        }
        for (int n = 1; n <= 24; n++) {
            long due = Math.min(1_000_000_000_000L, catalan[n - 1] << n - 1);
            Check.granted(x, "ways of " + n, x.ways(24 - n, 23), due);
            Check.granted(x, "ways of " + n, x.ways(0, n - 1), due);
        }
        Check.due("not yet the most", x.ways(3, 18), 317_680_680_960L);
        Check.due("the most", x.ways(3, 19), 1_000_000_000_000L);
        for (int i = 0; i < 23; i++) {
            Check.granted(x, "head", x.head(i, 23), i);
            Check.granted(x, "split", x.split(i, 23), i);
            Check.granted(x, "second", x.second(i, 23), i + 1);
            Check.granted(x, "splitCost", x.splitCost(0, 23, i), 0);
        }
    }

    private static void even() {
        HeadTrees x = Check.of(HEAD + ";note 1 long 1;note 90 long 3;note 2 long 1;note 80 long 2;rule even 1");
        Check.due("breaks(0, 3)", x.breaks(0, 3), 0);
        Check.due("split(0, 3)", x.split(0, 3), 1);
        Check.due("ways(0, 3)", x.ways(0, 3), 8);
        Check.due("breaks(0, 2)", x.breaks(0, 2), 1);
        Check.due("split(0, 2)", x.split(0, 2), 0);
        Check.due("ways(0, 2)", x.ways(0, 2), 8);
        Check.due("splitCost(0, 3, 0)", x.splitCost(0, 3, 0), 3);
        Check.due("splitCost(0, 3, 1)", x.splitCost(0, 3, 1), 0);
        Check.due("splitCost(0, 3, 2)", x.splitCost(0, 3, 2), 3);
        for (int h = 0; h < 4; h++) {
            Check.due("breaksBy", x.breaksBy(0, 3, h), 0);
        }
    }

    /** The last NOTE of the PIECE may not go UNDER another one, that of a SPAN may. */
    private static void close() {
        HeadTrees x = Check.of(HEAD + ";note 5 long 1;note 5 long 1;note 5 long 1;rule close 6");
        Check.due("head(0, 1)", x.head(0, 1), 0);
        Check.due("breaksBy(0, 1, 0)", x.breaksBy(0, 1, 0), 0);
        Check.due("head(0, 2)", x.head(0, 2), 2);
        Check.due("breaks(0, 2)", x.breaks(0, 2), 0);
        Check.due("breaksBy(0, 2, 0)", x.breaksBy(0, 2, 0), 6);
        Check.due("second(0, 2)", x.second(0, 2), 0);
        Check.due("ways(0, 2)", x.ways(0, 2), 3);
    }

    /** A HEAD whose TREE at the least SPLIT breaks more than at a later one. */
    private static void laterSplit() {
        HeadTrees x = Check.of(HEAD + ";note 12 long 1;note 50 long 1;note 10 long 1;rule step 2");
        Check.due("split(0, 2)", x.split(0, 2), 1);
        Check.due("breaks(0, 2)", x.breaks(0, 2), 72);
        Check.due("head(0, 2)", x.head(0, 2), 0);
        Check.due("splitCost(0, 2, 0)", x.splitCost(0, 2, 0), 4);
        Check.due("second(0, 2)", x.second(0, 2), 2);
    }

    private static void due(HeadTrees x, int rule, int[] heads, int left, int right, int want) {
        Check.granted(x, "broken " + rule + " " + heads[0] + " " + heads[1] + " " + left + " " + right,
                x.broken(rule, heads[0], heads[1], left, right), want);
    }

    private static int[] pair(int head, int under) {
        return new int[] {head, under};
    }

    private static void broken() {
        HeadTrees x = Check.of(HEAD + ";note 60 long 4;note 61 long 2;note 64 long 1;note 72 long 5;"
                + "rule strong 2;rule long 3;rule stable 5;rule step 7;rule even 11;rule close 13");
        due(x, 0, pair(2, 0), 1, 1, 2);
        due(x, 0, pair(3, 0), 1, 1, 4);
        due(x, 0, pair(0, 2), 1, 1, 0);
        due(x, 0, pair(0, 1), 1, 1, 0);
        due(x, 1, pair(1, 0), 1, 1, 6);
        due(x, 1, pair(0, 1), 1, 1, 0);
        due(x, 1, pair(2, 3), 9, 1, 12);
        due(x, 2, pair(1, 0), 1, 1, 10);
        due(x, 2, pair(1, 2), 1, 1, 5);
        due(x, 2, pair(0, 1), 1, 1, 0);
        due(x, 3, pair(0, 3), 1, 1, 70);
        due(x, 3, pair(3, 0), 1, 1, 70);
        due(x, 3, pair(0, 1), 1, 1, 0);
        due(x, 3, pair(1, 2), 1, 1, 7);
        due(x, 4, pair(0, 1), 3, 1, 22);
        due(x, 4, pair(0, 1), 1, 23, 242);
        due(x, 4, pair(0, 1), 23, 23, 0);
        due(x, 5, pair(0, 3), 1, 1, 13);
        due(x, 5, pair(3, 0), 1, 1, 0);
        due(x, 5, pair(3, 2), 1, 1, 0);
        Check.refused(x, "broken by rule 6", x.broken(6, 0, 1, 0, 1), 1);
        Check.refused(x, "broken by rule -1", x.broken(-1, 0, 1, 1, 1), 1);
        Check.refused(x, "broken, like NOTES", x.broken(0, 2, 2, 1, 24), 1);
        Check.refused(x, "broken, no HEAD", x.broken(0, 4, 1, 1, 1), 1);
        Check.refused(x, "broken, no UNDER", x.broken(0, 0, -1, 1, 1), 1);
        Check.refused(x, "broken, left 0", x.broken(0, 0, 1, 0, 1), 2);
        Check.refused(x, "broken, left 24", x.broken(0, 0, 1, 24, 1), 2);
        Check.refused(x, "broken, right 0", x.broken(0, 0, 1, 1, 0), 2);
        Check.refused(x, "broken, right 24", x.broken(0, 0, 1, 1, 24), 2);
    }

    public static void main(String[] args) {
        threeNotes();
        withoutRules();
        even();
        close();
        laterSplit();
        broken();
        Check.end("SpansTest");
    }
}
