/** THE TREE: each sentence of terms II, and of promises 17 to 29 and 45, that names a boundary. */
public final class TreeBoundsTest {
    private static final String HEAD = "piece bar 4 beat 1 key 0";
    // Pairs: 0 over 1, 3 over 2, 3 over 0.
    private static final String PAIRS = HEAD
            + ";note 60 long 2;note 62 long 1;note 64 long 1;note 67 long 4;rule even 9;rule long 1";
    // As many parts deep as 24 NOTES allow: each NOTE over the one behind it.
    private static final String RIGHT = HEAD + ";note 5 long 1".repeat(24);

    /** Each NOTE longer than the one ahead and as much higher: the last one is over each ahead. */
    private static String left() {
        StringBuilder text = new StringBuilder(HEAD);
        for (int k = 0; k < 24; k++) {
            text.append(";note ").append(2 * k).append(" long ").append(k + 1);
        }
        return text.append(";rule long 9;rule step 1").toString();
    }

    private static HeadTrees one() {
        return Check.of(HEAD + ";note 33 long 3;rule close 9;rule even 9");
    }

    private static HeadTrees two() {
        return Check.of(HEAD + ";note 33 long 1;note 93 long 64;rule long 1");
    }

    private static void joiningIs(HeadTrees x, int i, int... want) {
        for (int what = 0; what < want.length; what++) {
            Check.granted(x, "joining " + i + " " + what, x.joining(i, what), want[what]);
        }
    }

    // ---- terms II

    private static void numbers() {
        Check.sentence("II: JOININGS of THE TREE are numbered from 0: it itself, those of its left part, of its right");
        HeadTrees x = Check.of(PAIRS);
        joiningIs(x, 0, 0, 3, 1, 3, 0);
        joiningIs(x, 1, 0, 1, 0, 0, 1);
        joiningIs(x, 2, 2, 3, 2, 3, 2);
        x = Check.of(RIGHT);
        for (int i = 0; i < 23; i++) {
            joiningIs(x, i, i, 23, i, i, i + 1, 0, i);
        }
        x = Check.of(left());
        for (int i = 0; i < 23; i++) {
            joiningIs(x, i, 0, 23 - i, 22 - i, 23 - i, 22 - i, 0, i);
        }
        Check.sentence("II: DEPTH of a part: how many parts it is in, of THE TREE 0");
        Check.due("of two NOTES", two().joining(0, 6), 0);
        x = Check.of(PAIRS);
        Check.due("THE TREE", x.joining(0, 6), 0);
        Check.due("its left part", x.joining(1, 6), 1);
        Check.due("its right part", x.joining(2, 6), 1);
    }

    private static void levelIs(HeadTrees x, int d, int... notes) {
        Check.granted(x, "level " + d, x.level(d), notes.length);
        for (int k = 0; k < notes.length; k++) {
            Check.granted(x, "levelNote " + d + " " + k, x.levelNote(d, k, 0), notes[k]);
        }
    }

    private static void levels() {
        Check.sentence("II: LEVEL d: HEADS of the parts at DEPTH d and of single NOTES at less, in order");
        levelIs(one(), 0, 0);
        levelIs(two(), 0, 1);
        levelIs(two(), 1, 0, 1);
        HeadTrees x = Check.of(PAIRS);
        levelIs(x, 0, 3);
        levelIs(x, 1, 0, 3);
        levelIs(x, 2, 0, 1, 2, 3);
        x = Check.of(HEAD + ";note 60 long 9;note 62 long 1;note 60 long 1;rule long 1;rule even 1");
        levelIs(x, 0, 0);
        levelIs(x, 1, 0, 1);
        levelIs(x, 2, 0, 1, 2);
        x = Check.of(left());
        levelIs(x, 1, 22, 23);
        levelIs(x, 2, 21, 22, 23);
        Check.due("single NOTES at less", x.level(22), 23);
        Check.due("all", x.level(23), 24);
        Check.sentence("II: each lasts as long as its part");
        Check.due("all", x.levelNote(0, 0, 2), 300);
        Check.due("all but the last", x.levelNote(1, 0, 2), 276);
        Check.due("the last alone", x.levelNote(1, 1, 2), 24);
        Check.due("a NOTE alone", x.levelNote(23, 0, 2), 1);
        Check.sentence("II: RANK of a NOTE: the least LEVEL it is in");
        Check.due("of one", one().note(0, 5), 0);
        for (int k = 0; k < 24; k++) {
            Check.due("RANK of " + k, x.note(k, 5), 23 - k);
        }
        x = Check.of(PAIRS);
        int[] ranks = {1, 2, 2, 0};
        for (int k = 0; k < 4; k++) {
            Check.due("RANK of " + k, x.note(k, 5), ranks[k]);
        }
    }

    // ---- promises 17 to 22

    private static void joinings() {
        Check.sentence("17: How many JOININGS");
        Check.due("of one NOTE", one().joinings(), 0);
        Check.due("of two", two().joinings(), 1);
        Check.due("of 24", Check.of(RIGHT).joinings(), 23);
        Check.sentence("18: Of the i-th 0 its first NOTE, .. 6 DEPTH");
        HeadTrees x = two();
        joiningIs(x, 0, 0, 1, 0, 1, 0, 0, 0);
        x = Check.of(left());
        joiningIs(x, 22, 0, 1, 0, 1, 0, 0, 22);
        Check.sentence("18: 5 BREAKS of it alone");
        x = Check.of(HEAD + ";note 60 long 1;note 65 long 1;note 60 long 1;rule step 2;rule even 1");
        Check.due("together", x.breaks(0, 2), 7);
        Check.due("the first", x.joining(0, 5), 1);
        Check.due("the second", x.joining(1, 5), 6);
        Check.sentence("19: BREAKS of all JOININGS by a RULE");
        int[] due = {0, 0, 0, 6, 1, 0};
        for (int rule = 0; rule < 6; rule++) {
            Check.granted(x, "breaksOf " + rule, x.breaksOf(rule), due[rule]);
            Check.due("of one NOTE", one().breaksOf(rule), 0);
        }
    }

    private static void depths() {
        Check.sentence("20: The greatest DEPTH of a part");
        Check.due("of one NOTE", one().deepest(), 0);
        Check.due("of two", two().deepest(), 1);
        Check.due("of two pairs", Check.of(PAIRS).deepest(), 2);
        Check.due("to the right", Check.of(RIGHT).deepest(), 23);
        Check.due("to the left", Check.of(left()).deepest(), 23);
        Check.due("as little as may be", Check.of(RIGHT + ";rule even 1").deepest(), 5);
        Check.sentence("21: How many NOTES LEVEL d has (0 .. the greatest DEPTH)");
        HeadTrees x = Check.of(RIGHT);
        for (int d = 0; d <= 23; d++) {
            Check.granted(x, "level " + d, x.level(d), d + 1);
        }
        Check.due("of one NOTE", one().level(0), 1);
        Check.sentence("22: Of its k-th 0 the NOTE, 1 when its part BEGINS, 2 how long that lasts");
        x = Check.of(PAIRS);
        int[][] rows = {{0, 0, 3, 0, 8}, {1, 0, 0, 0, 3}, {1, 1, 3, 3, 5}, {2, 0, 0, 0, 2}, {2, 3, 3, 4, 4}};
        for (int[] row : rows) {
            for (int what = 0; what < 3; what++) {
                Check.granted(x, "levelNote " + row[0] + " " + row[1] + " " + what,
                        x.levelNote(row[0], row[1], what), row[2 + what]);
            }
        }
        Check.due("of one NOTE", one().levelNote(0, 0, 2), 3);
    }

    // ---- promises 23 to 27

    private static void paths() {
        Check.sentence("23: All steps from PITCH to PITCH of LEVEL d (up or down) together");
        Check.due("of one NOTE", one().path(0), 0);
        HeadTrees x = Check.of(HEAD + ";note 0 long 1;note 99 long 1".repeat(12));
        Check.granted(x, "the widest 23", x.path(23), 23 * 99);
        Check.granted(x, "up", x.path(1), 99);
        Check.granted(x, "up, down", x.path(2), 198);
        Check.granted(x, "none", x.path(0), 0);
        Check.sentence("26: The widest step from PITCH to PITCH of LEVEL d (up or down; 0 of one NOTE)");
        Check.granted(x, "of LEVEL 0", x.widest(0), 0);
        Check.granted(x, "up", x.widest(1), 99);
        Check.due("of one NOTE", one().widest(0), 0);
        x.pitch(0, 99);
        Check.granted(x, "no step", x.widest(1), 0);
        x.pitch(1, 0);
        Check.granted(x, "down", x.widest(1), 99);
        x.pitch(1, 98);
        Check.granted(x, "down by one", x.widest(1), 1);
        Check.sentence("25: The NOTE of the greatest PITCH of LEVEL d, of several the first");
        Check.due("of one NOTE", one().climax(0), 0);
        Check.granted(x, "the first of several", x.climax(23), 0);
        x.pitch(0, 5);
        Check.granted(x, "the first of several behind", x.climax(23), 3);
        Check.granted(x, "of two", x.climax(1), 1);
        Check.granted(x, "of LEVEL 0", x.climax(0), 0);
        x.pitch(23, 98);
        Check.granted(x, "not the last", x.climax(23), 3);
        x = Check.of(HEAD + ";note 0 long 1;note 0 long 1;note 1 long 1");
        Check.granted(x, "the last", x.climax(2), 2);
        Check.granted(x, "of several of 0", x.climax(1), 0);
    }

    private static void echoes() {
        Check.sentence("27: At how many places of LEVEL e as many NOTES as LEVEL d has begin with just its steps");
        HeadTrees x = one();
        Check.granted(x, "of one NOTE", x.echo(0, 0), 1);
        x = Check.of(RIGHT);
        Check.granted(x, "one NOTE, at all places", x.echo(0, 23), 24);
        Check.granted(x, "as many, at one place", x.echo(23, 23), 1);
        Check.granted(x, "all but one", x.echo(22, 23), 2);
        Check.granted(x, "more than there are", x.echo(23, 22), 0);
        Check.granted(x, "more than one", x.echo(1, 0), 0);
        Check.granted(x, "of two", x.echo(1, 23), 23);
        x.pitch(23, 6);
        Check.granted(x, "the last step is another", x.echo(1, 23), 22);
        x.pitch(0, 4);
        Check.granted(x, "up, as the first and the last", x.echo(1, 23), 2);
        x.pitch(0, 6);
        Check.granted(x, "down, not as the last", x.echo(1, 23), 1);
        x.pitch(0, 3);
        Check.granted(x, "another width", x.echo(1, 23), 1);
    }

    // ---- promises 24, 28, 29, 45

    private static void reachIs(HeadTrees x, int k, int... want) {
        for (int what = 0; what < 3; what++) {
            Check.granted(x, "reach " + k + " " + what, x.reach(k, what), want[what]);
        }
    }

    private static void reaches() {
        Check.sentence("24: Of the greatest part of THE TREE of which a NOTE is HEAD 0 its first NOTE, 1 its last");
        reachIs(two(), 0, 0, 0, 1);
        HeadTrees x = Check.of(PAIRS);
        reachIs(x, 0, 0, 1, 3);
        reachIs(x, 1, 1, 1, 0);
        reachIs(x, 2, 2, 2, 3);
        x = Check.of(RIGHT);
        for (int k = 1; k < 24; k++) {
            reachIs(x, k, k, 23, k - 1);
        }
        x = Check.of(left());
        for (int k = 0; k < 23; k++) {
            reachIs(x, k, 0, k, k + 1);
        }
        Check.sentence("24: 2 the NOTE that it is UNDER (-2 none)");
        reachIs(one(), 0, 0, 0, -2);
        reachIs(two(), 1, 0, 1, -2);
        reachIs(x, 23, 0, 23, -2);
        reachIs(Check.of(RIGHT), 0, 0, 23, -2);
    }

    private static void overs() {
        Check.sentence("28: The HEAD of the least part of THE TREE in which both NOTES are");
        Check.due("one NOTE twice", one().over(0, 0), 0);
        HeadTrees x = two();
        Check.granted(x, "over(0, 1)", x.over(0, 1), 1);
        Check.granted(x, "over(1, 0)", x.over(1, 0), 1);
        Check.granted(x, "over(0, 0)", x.over(0, 0), 0);
        Check.granted(x, "over(1, 1)", x.over(1, 1), 1);
        x = Check.of(left());
        for (int k = 0; k < 24; k++) {
            Check.granted(x, "over(0, " + k + ")", x.over(0, k), k);
            Check.granted(x, "over(" + k + ", 23)", x.over(k, 23), 23);
            Check.granted(x, "over(" + k + ", 11)", x.over(k, 11), Math.max(k, 11));
        }
        Check.sentence("29: How many NOTES are UNDER a NOTE, and UNDER these, and so on");
        for (int k = 0; k < 24; k++) {
            Check.granted(x, "under " + k, x.under(k), k);
        }
        Check.due("of one NOTE", one().under(0), 0);
        Check.due("none", two().under(0), 0);
        Check.due("the other", two().under(1), 1);
        x = Check.of(PAIRS);
        int[] due = {1, 0, 0, 3};
        for (int k = 0; k < 4; k++) {
            Check.granted(x, "under " + k, x.under(k), due[k]);
        }
    }

    private static void bares() {
        Check.sentence("45: The i-th NOTE, by numbers, that nothing is UNDER");
        Check.due("of one NOTE", one().bare(0), 0);
        Check.due("of two", two().bare(0), 0);
        HeadTrees x = Check.of(PAIRS);
        Check.due("the first", x.bare(0), 1);
        Check.due("the last", x.bare(1), 2);
        Check.due("to the right", Check.of(RIGHT).bare(0), 23);
        Check.due("to the left", Check.of(left()).bare(0), 0);
        Check.sentence("45: NoSuchElementException if there is none such");
        Check.throwsNone("without a PIECE", new HeadTrees(), 0);
        Check.throwsNone("a second of one NOTE", one(), 1);
        Check.throwsNone("a second of two", two(), 1);
        Check.throwsNone("a third of two pairs", x, 2);
        for (int i : new int[] {-1, 4, 24, Integer.MIN_VALUE, Integer.MAX_VALUE}) {
            Check.throwsNone("bare " + i, x, i);
        }
        Check.due("the PIECE is as it was", x.bare(1), 2);
    }

    public static void main(String[] args) {
        numbers();
        levels();
        joinings();
        depths();
        paths();
        echoes();
        reaches();
        overs();
        bares();
        Check.end("TreeBoundsTest");
    }
}
