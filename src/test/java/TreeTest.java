/** Promises 17 to 29 and 45: JOININGS of THE TREE, its LEVELS, what lies UNDER what. */
public final class TreeTest {
    private static final String HEAD = "piece bar 4 beat 1 key 0";
    // Only two and two break nothing, and of each two the longer one must be HEAD.
    private static final String PAIRS = HEAD
            + ";note 60 long 2;note 62 long 1;note 64 long 1;note 67 long 4;rule even 9;rule long 1";
    // THE TREE goes down by its right parts: 3 over 0, over 1, over 2.
    private static final String CHAIN = HEAD
            + ";note 60 long 2;note 62 long 1;note 64 long 1;note 60 long 4"
            + ";rule strong 3;rule long 1;rule stable 2;rule step 1;rule close 5";

    private static void joinings() {
        HeadTrees x = Check.of(PAIRS);
        int[][] due = {{0, 3, 1, 3, 0, 0, 0}, {0, 1, 0, 0, 1, 0, 1}, {2, 3, 2, 3, 2, 0, 1}};
        Check.granted(x, "joinings()", x.joinings(), 3);
        for (int i = 0; i < 3; i++) {
            for (int what = 0; what < 7; what++) {
                Check.granted(x, "joining " + i + " " + what, x.joining(i, what), due[i][what]);
            }
        }
        Check.refused(x, "joining(3, 0)", x.joining(3, 0), 1);
        Check.refused(x, "joining(-1, 0)", x.joining(-1, 0), 1);
        Check.refused(x, "joining(0, 7)", x.joining(0, 7), 1);
        Check.refused(x, "joining(0, -1)", x.joining(0, -1), 1);
        x = Check.of(CHAIN);
        int[][] chain = {{0, 3, 0, 3, 0, 0, 0}, {1, 3, 1, 3, 1, 0, 1}, {2, 3, 2, 3, 2, 2, 2}};
        for (int i = 0; i < 3; i++) {
            for (int what = 0; what < 7; what++) {
                Check.granted(x, "joining " + i + " " + what, x.joining(i, what), chain[i][what]);
            }
        }
    }

    /** Of TREES that break as little: the least SPLIT, then the least UNDER. */
    private static void leastOfAll() {
        HeadTrees x = Check.of(HEAD + ";note 9 long 1;note 9 long 1;note 9 long 1;note 9 long 1");
        int[][] due = {{0, 3, 0, 0, 1}, {1, 3, 1, 1, 2}, {2, 3, 2, 2, 3}};
        for (int i = 0; i < 3; i++) {
            for (int what = 0; what < 5; what++) {
                Check.due("joining " + i + " " + what, x.joining(i, what), due[i][what]);
            }
        }
    }

    /** Either HEAD breaks step by 10; with 0 as HEAD long by 2 and close by 1 are broken, too. */
    private static void breaksOf() {
        HeadTrees x = Check.of(HEAD + ";note 60 long 1;note 72 long 3;rule long 2;rule step 1;rule close 4");
        Check.due("breaksBy(0, 1, 0)", x.breaksBy(0, 1, 0), 18);
        Check.due("joining(0, 5)", x.joining(0, 5), 10);
        int[] due = {0, 0, 0, 10, 0, 0};
        for (int rule = 0; rule < 6; rule++) {
            Check.granted(x, "breaksOf " + rule, x.breaksOf(rule), due[rule]);
        }
        x.weigh(3, 7);
        x.weigh(4, 5);
        Check.due("breaksOf(3) by another WEIGHT", x.breaksOf(3), 70);
        Check.refused(x, "breaksOf(6)", x.breaksOf(6), 1);
        Check.refused(x, "breaksOf(-1)", x.breaksOf(-1), 1);
        x = Check.of(HEAD + ";note 1 long 1;note 1 long 1;note 1 long 1;rule even 4");
        Check.due("breaksOf(4)", x.breaksOf(4), 4);
        Check.due("joining(0, 5)", x.joining(0, 5), 4);
        Check.due("joining(1, 5)", x.joining(1, 5), 0);
    }

    private static void levels() {
        HeadTrees x = Check.of(PAIRS);
        Check.granted(x, "deepest()", x.deepest(), 2);
        int[][][] due = {
            {{3, 0, 8}}, {{0, 0, 3}, {3, 3, 5}}, {{0, 0, 2}, {1, 2, 1}, {2, 3, 1}, {3, 4, 4}}};
        level(x, due);
        x = Check.of(CHAIN);
        Check.granted(x, "deepest()", x.deepest(), 3);
        int[][][] chain = {
            {{3, 0, 8}}, {{0, 0, 2}, {3, 2, 6}}, {{0, 0, 2}, {1, 2, 1}, {3, 3, 5}},
            {{0, 0, 2}, {1, 2, 1}, {2, 3, 1}, {3, 4, 4}}};
        level(x, chain);
    }

    private static void level(HeadTrees x, int[][][] due) {
        for (int d = 0; d < due.length; d++) {
            Check.granted(x, "level " + d, x.level(d), due[d].length);
            for (int k = 0; k < due[d].length; k++) {
                for (int what = 0; what < 3; what++) {
                    Check.granted(x, "levelNote " + d + " " + k + " " + what,
                            x.levelNote(d, k, what), due[d][k][what]);
                }
            }
            Check.refused(x, "levelNote, no k", x.levelNote(d, due[d].length, 0), 1);
            Check.refused(x, "levelNote, k -1", x.levelNote(d, -1, 0), 1);
            Check.refused(x, "levelNote, what 3", x.levelNote(d, 0, 3), 1);
            Check.refused(x, "levelNote, what -1", x.levelNote(d, 0, -1), 1);
        }
        for (int d : new int[] {-1, due.length, Integer.MAX_VALUE}) {
            Check.refused(x, "level " + d, x.level(d), 2);
            Check.refused(x, "levelNote " + d, x.levelNote(d, -1, 9), 2);
            Check.refused(x, "path " + d, x.path(d), 2);
            Check.refused(x, "climax " + d, x.climax(d), 2);
            Check.refused(x, "widest " + d, x.widest(d), 2);
            Check.refused(x, "echo " + d, x.echo(d, 0), 2);
            Check.refused(x, "echo in " + d, x.echo(0, d), 2);
        }
    }

    private static void melodies() {
        HeadTrees x = Check.of(HEAD + ";note 60 long 2;note 50 long 1;note 64 long 1;note 67 long 4"
                + ";rule even 9;rule long 1");
        int[] path = {0, 7, 27};
        int[] widest = {0, 7, 14};
        int[] climax = {3, 3, 3};
        for (int d = 0; d < 3; d++) {
            Check.granted(x, "path " + d, x.path(d), path[d]);
            Check.granted(x, "widest " + d, x.widest(d), widest[d]);
            Check.granted(x, "climax " + d, x.climax(d), climax[d]);
        }
        x.pitch(1, 90);
        Check.granted(x, "climax(2)", x.climax(2), 1);
        Check.granted(x, "climax(1)", x.climax(1), 3);
        Check.granted(x, "widest(2) up", x.widest(2), 30);
        x.pitch(0, 90);
        Check.granted(x, "climax(2), the first of two", x.climax(2), 0);
        Check.granted(x, "widest(2) down", x.widest(2), 26);
        Check.granted(x, "path(1) down", x.path(1), 23);
    }

    private static void echoes() {
        String rules = ";rule even 9;rule long 1";
        HeadTrees x = Check.of(HEAD + ";note 60 long 1;note 62 long 2;note 64 long 2;note 66 long 1" + rules);
        Check.due("LEVEL 1 begins with 1", x.levelNote(1, 0, 0), 1);
        Check.due("LEVEL 1 ends with 2", x.levelNote(1, 1, 0), 2);
        Check.granted(x, "echo(1, 2)", x.echo(1, 2), 3);
        Check.granted(x, "echo(0, 2)", x.echo(0, 2), 4);
        Check.granted(x, "echo(0, 0)", x.echo(0, 0), 1);
        Check.granted(x, "echo(2, 2)", x.echo(2, 2), 1);
        Check.granted(x, "echo(2, 1)", x.echo(2, 1), 0);
        Check.granted(x, "echo(1, 0)", x.echo(1, 0), 0);
        x = Check.of(HEAD + ";note 60 long 1;note 62 long 2;note 60 long 2;note 62 long 1" + rules);
        Check.granted(x, "a step down is no step up", x.echo(1, 2), 1);
    }

    private static void underAndOver() {
        HeadTrees x = Check.of(PAIRS);
        int[][] reach = {{0, 1, 3}, {1, 1, 0}, {2, 2, 3}, {0, 3, -2}};
        int[] under = {1, 0, 0, 3};
        int[] rank = {1, 2, 2, 0};
        int[][] over = {{0, 0, 3, 3}, {0, 1, 3, 3}, {3, 3, 2, 3}, {3, 3, 3, 3}};
        for (int k = 0; k < 4; k++) {
            for (int what = 0; what < 3; what++) {
                Check.granted(x, "reach " + k + " " + what, x.reach(k, what), reach[k][what]);
            }
            Check.granted(x, "under " + k, x.under(k), under[k]);
            Check.granted(x, "RANK of " + k, x.note(k, 5), rank[k]);
            for (int other = 0; other < 4; other++) {
                Check.granted(x, "over " + k + " " + other, x.over(k, other), over[k][other]);
            }
        }
        Check.refused(x, "reach(0, 3)", x.reach(0, 3), 1);
        Check.refused(x, "reach(0, -1)", x.reach(0, -1), 1);
        Check.refused(x, "reach(4, 0)", x.reach(4, 0), 1);
        Check.refused(x, "reach(-1, 0)", x.reach(-1, 0), 1);
        Check.refused(x, "under(4)", x.under(4), 1);
        Check.refused(x, "under(-1)", x.under(-1), 1);
        Check.refused(x, "over(0, 4)", x.over(0, 4), 1);
        Check.refused(x, "over(-1, 0)", x.over(-1, 0), 1);
    }

    private static void twoNotesOver() {
        HeadTrees x = Check.of(HEAD + ";note 60 long 4;note 62 long 1;note 64 long 1;note 67 long 2"
                + ";rule even 9;rule long 1");
        int[][] over = {{0, 0, 0, 0}, {0, 1, 0, 0}, {0, 0, 2, 3}, {0, 0, 3, 3}};
        for (int k = 0; k < 4; k++) {
            for (int other = 0; other < 4; other++) {
                Check.granted(x, "over " + k + " " + other, x.over(k, other), over[k][other]);
            }
        }
        x = Check.of(HEAD + ";note 60 long 4;note 62 long 1");
        Check.due("deepest() of two", x.deepest(), 1);
        Check.due("level(1) of two", x.level(1), 2);
    }

    private static void bare() {
        HeadTrees x = Check.of(PAIRS);
        x.about(9);
        Check.due("bare(0)", x.bare(0), 1);
        Check.due("bare(1)", x.bare(1), 2);
        Check.throwsNone("bare(2)", x, 2);
        Check.throwsNone("bare(-1)", x, -1);
        Check.due("bare leaves TROUBLE", x.trouble(), 1);
        x = Check.of(CHAIN);
        for (int i = 0; i < 3; i++) {
            Check.due("bare " + i, x.bare(i), i);
        }
        Check.throwsNone("bare(3)", x, 3);
    }

    private static void oneNote() {
        HeadTrees x = Check.of(HEAD + ";note 33 long 3;rule close 9");
        Check.granted(x, "joinings()", x.joinings(), 0);
        Check.refused(x, "joining(0, 0)", x.joining(0, 0), 1);
        Check.granted(x, "deepest()", x.deepest(), 0);
        Check.granted(x, "level(0)", x.level(0), 1);
        Check.refused(x, "level(1)", x.level(1), 2);
        Check.granted(x, "levelNote(0, 0, 0)", x.levelNote(0, 0, 0), 0);
        Check.granted(x, "path(0)", x.path(0), 0);
        Check.granted(x, "climax(0)", x.climax(0), 0);
        Check.granted(x, "widest(0)", x.widest(0), 0);
        Check.granted(x, "echo(0, 0)", x.echo(0, 0), 1);
        Check.granted(x, "reach(0, 0)", x.reach(0, 0), 0);
        Check.granted(x, "reach(0, 1)", x.reach(0, 1), 0);
        Check.granted(x, "reach(0, 2)", x.reach(0, 2), -2);
        Check.granted(x, "over(0, 0)", x.over(0, 0), 0);
        Check.granted(x, "under(0)", x.under(0), 0);
        Check.granted(x, "note(0, 5)", x.note(0, 5), 0);
        Check.granted(x, "breaksOf(5)", x.breaksOf(5), 0);
        Check.due("bare(0)", x.bare(0), 0);
    }

    private static void withoutPiece() {
        HeadTrees x = new HeadTrees();
        Check.refused(x, "joinings()", x.joinings(), 1);
        Check.refused(x, "joining(0, 0)", x.joining(0, 0), 1);
        Check.refused(x, "breaksOf(0)", x.breaksOf(0), 1);
        Check.refused(x, "deepest()", x.deepest(), 1);
        Check.refused(x, "level(-1)", x.level(-1), 1);
        Check.refused(x, "levelNote(-1, 0, 0)", x.levelNote(-1, 0, 0), 1);
        Check.refused(x, "path(-1)", x.path(-1), 1);
        Check.refused(x, "reach(0, 0)", x.reach(0, 0), 1);
        Check.refused(x, "climax(-1)", x.climax(-1), 1);
        Check.refused(x, "widest(-1)", x.widest(-1), 1);
        Check.refused(x, "echo(-1, 0)", x.echo(-1, 0), 1);
        Check.refused(x, "over(0, 0)", x.over(0, 0), 1);
        Check.refused(x, "under(0)", x.under(0), 1);
        Check.throwsNone("bare(0)", x, 0);
    }

    public static void main(String[] args) {
        joinings();
        leastOfAll();
        breaksOf();
        levels();
        melodies();
        echoes();
        underAndOver();
        twoNotesOver();
        bare();
        oneNote();
        withoutPiece();
        Check.end("TreeTest");
    }
}
