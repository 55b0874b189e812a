/** Promises 1 to 8: a new object, THE TAPE, the text of a PIECE and its FAULTS, what it tells. */
public final class TextTest {
    private static final String HEAD = "piece bar 4 beat 1 key 0";
    private static final String NOTE = ";note 1 long 1";

    private static void newObject() {
        HeadTrees x = new HeadTrees();
        Check.due("new: trouble()", x.trouble(), 0);
        Check.due("new: fault()", x.fault(), 0);
        Check.due("new: where()", x.where(), -1);
        for (int what = 0; what < 3; what++) {
            Check.due("new: size " + what, x.size(what), 0);
        }
        Check.refused(x, "new: about(3)", x.about(3), 1);
        Check.refused(x, "new: note(0, 0)", x.note(0, 0), 1);
        Check.refused(x, "new: weight(0)", x.weight(0), 1);
        Check.throwsNone("new: bare(0)", x, 0);
    }

    private static void tape() {
        HeadTrees x = new HeadTrees();
        for (int fed = 20; fed <= 700; fed += 20) {
            Check.due("feed", x.feed(0x20202020, 0x20202020, 0x20202020, 0x20202020, 0x20202020), fed);
        }
        Check.due("feed beyond 700", x.feed(0, 0, 0, 0, 0), -1);
        Check.due("size(0)", x.size(0), 700);
        Check.due("feed is not refused by a number", x.trouble(), 0);
        Check.refused(x, "piece(701)", x.piece(701), 2);
        Check.refused(x, "piece(-1)", x.piece(-1), 2);
        Check.due("fault() of none but by 2", x.fault(), 0);
        Check.due("where() behind 2", x.where(), -1);
        Check.due("THE TAPE stays", x.size(0), 700);
        Check.refused(x, "piece(700) of blanks", x.piece(700), 4);
        Check.due("fault()", x.fault(), 1);
        Check.due("where()", x.where(), 700);
        Check.due("THE TAPE is empty", x.size(0), 0);
        Check.refused(x, "piece(1)", x.piece(1), 2);
        Check.due("fault() stays behind 2", x.fault(), 1);
        Check.due("where() is none behind 2", x.where(), -1);
    }

    /** The highest byte of each number comes first, and the bytes behind n are no more. */
    private static void bytes() {
        HeadTrees x = new HeadTrees();
        x.feed(0x70696563, 0x65206261, 0x72203634, 0x62656174, 0x3634206b);
        x.feed(0x65793131, 0x3b6e6f74, 0x65393920, 0x206c6f6e, 0x6736343b);
        Check.granted(x, "piece(39)", x.piece(39), 1);
        Check.due("the rest is gone", x.size(0), 0);
        Check.due("BAR", x.about(0), 64);
        Check.due("BEAT", x.about(1), 64);
        Check.due("KEY", x.about(2), 11);
        Check.due("PITCH", x.note(0, 0), 99);
        Check.due("LONG", x.note(0, 1), 64);
    }

    private static void faulty(String text, int fault, int place) {
        HeadTrees x = new HeadTrees();
        Check.read(x, "piece bar 3 beat 3 key 9;note 7 long 5");
        x.weigh(2, 8);
        x.keep();
        int got = Check.read(x, text);
        Check.refused(x, "piece of " + text, got, 4);
        Check.due("fault() of " + text, x.fault(), fault);
        Check.due("where() of " + text, x.where(), place);
        Check.due("the PIECE stays", x.about(2), 9);
        Check.due("where() behind another call", x.where(), -1);
        Check.due("fault() behind another call", x.fault(), fault);
        Check.due("what can be undone stays", x.size(1), 1);
        Check.due("what is kept stays", x.size(2), 1);
    }

    private static void form() {
        faulty("", 1, 0);
        faulty("   ", 1, 3);
        faulty("x", 1, 0);
        faulty("4", 1, 0);
        faulty(";", 1, 0);
        faulty("Piece", 1, 0);
        faulty("xiece bar 4 beat 1 key 0;note 1 long 1", 1, 0);
        faulty("piecf bar 4 beat 1 key 0;note 1 long 1", 1, 0);
        faulty("z", 1, 0);
        faulty("zzzzzzz", 1, 0);
        faulty(HEAD + ";rule strongz 1", 1, 30);
        faulty("pieces", 1, 0);
        faulty("piece", 1, 5);
        faulty("piece  ", 1, 7);
        faulty("piece beat 4", 1, 6);
        faulty("piece bar x", 1, 10);
        faulty("piece bar 100 beat 1 key 0", 1, 10);
        faulty("piece bar 4 4", 1, 12);
        faulty("piece bar 4 beat 1 key", 1, 22);
        faulty(HEAD + ";", 1, 25);
        faulty(HEAD + " note 1 long 1", 1, 25);
        faulty(HEAD + NOTE + ";", 1, 39);
        faulty(HEAD + NOTE + ";;", 1, 39);
        faulty(HEAD + NOTE + " 7", 1, 39);
        faulty(HEAD + NOTE + (char) 200, 1, 38);
        faulty(HEAD + NOTE + (char) 0, 1, 38);
        faulty(HEAD + NOTE + "\n", 1, 38);
        faulty(HEAD + ";note 1 long", 1, 36);
        faulty(HEAD + ";note 001 long 1", 1, 30);
        faulty(HEAD + ";note 1 strong 1", 1, 32);
        faulty(HEAD + ";note -1 long 1", 1, 30);
        faulty(HEAD + ";rule odd 1", 1, 30);
        faulty(HEAD + ";rule strongx 1", 1, 30);
        faulty(HEAD + ";rule strong", 1, 36);
        faulty(HEAD + ";rule strong 100", 1, 37);
        faulty(HEAD + ";bar 4", 1, 25);
        faulty("pie ce bar 4 beat 1 key 0;note 1 long 1", 1, 0);
    }

    private static void otherFaults() {
        faulty("piece bar 0", 2, 10);
        faulty("piece bar 65 beat", 2, 10);
        faulty("piece bar 4 beat 0", 2, 17);
        faulty("piece bar 4 beat 5 x", 2, 17);
        faulty("piece bar 4 beat 4 key 12", 2, 23);
        faulty(HEAD + ";note 1 long 0", 2, 37);
        faulty(HEAD + ";note 1 long 65;note", 2, 37);
        faulty(HEAD + ";piece", 3, 25);
        faulty(HEAD + NOTE + ";piece bar 4 beat 1 key 0", 3, 39);
        faulty(HEAD + ";rule even 1;rule even", 3, 42);
        faulty(HEAD + ";rule even 0;rule close 2;rule  even 0", 3, 56);
        StringBuilder many = new StringBuilder(HEAD);
        for (int k = 0; k < 24; k++) {
            many.append(NOTE);
        }
        faulty(many + "; note", 4, 24 + 24 * 14 + 2);
        faulty(many + ";note 1 long 0", 4, 24 + 24 * 14 + 1);
        faulty("note", 5, 0);
        faulty(" rule even 1", 5, 1);
        faulty("note 100;piece", 5, 0);
        faulty(HEAD, 5, 24);
        faulty(HEAD + "  ", 5, 26);
        faulty(HEAD + ";rule even 1", 5, 36);
        HeadTrees x = Check.of(many.toString());
        Check.due("24 NOTES are not too many", x.about(3), 24);
        Check.due("LONG of all", x.about(4), 24);
        Check.due("the last NOTE", x.note(23, 2), 23);
        Check.due("move(98)", x.move(98), 0);
        Check.due("the last NOTE", x.note(23, 0), 99);
        Check.due("climax", x.climax(x.deepest()), 0);
        Check.due("bare(0)", x.bare(0), 23);
        Check.throwsNone("bare(1)", x, 1);
        Check.due("the last JOINING", x.joining(22, 4), 23);
    }

    private static void fair() {
        HeadTrees x = new HeadTrees();
        String[] texts = {
            HEAD + NOTE, "piece bar4beat1key0;note1long1", "  piece bar 04 beat 01 key 00 ; note 01 long 01  ",
            HEAD + ";rule even 1;note 0 long 64;rule strong 0", HEAD + ";note 99 long 1"};
        for (String text : texts) {
            Check.granted(x, "piece of " + text, Check.read(x, text), 1);
            Check.due("fault() of " + text, x.fault(), 0);
            Check.due("where() of " + text, x.where(), -1);
        }
        Check.read(x, HEAD + NOTE + NOTE + ";rule strong 9;rule even 9");
        x.pitch(0, 3);
        x.keep();
        Check.granted(x, "piece again", Check.read(x, HEAD + NOTE), 1);
        Check.due("LONG of all", x.about(4), 1);
        Check.due("RULES of all", x.about(5), 0);
        Check.due("RULES not told again are 0", x.weight(0), 0);
        Check.due("nothing to undo", x.size(1), 0);
        Check.due("no ANALYSIS kept", x.size(2), 0);
        Check.due("RULES not told again are 0", x.weight(4), 0);
    }

    /** Nothing of any PIECE ahead is left, be it the latest one or that ahead of it. */
    private static void again() {
        HeadTrees x = new HeadTrees();
        String rules = ";rule strong 9;rule long 9;rule stable 9;rule step 9;rule even 9;rule close 9";
        for (int turn = 0; turn < 3; turn++) {
            Check.granted(x, "piece with RULES", Check.read(x, HEAD + NOTE + NOTE + rules), 2);
            Check.due("RULES", x.about(5), 6);
        }
        for (int turn = 0; turn < 3; turn++) {
            Check.granted(x, "piece without", Check.read(x, HEAD + NOTE), 1);
            Check.due("RULES", x.about(5), 0);
            Check.due("NOTES", x.about(3), 1);
        }
    }

    /** Bytes behind the n-th belong to no TOKEN, even if they stand together with it. */
    private static void cut() {
        String text = HEAD + ";note 12 long 34;rule strong 56";
        HeadTrees x = new HeadTrees();
        Check.feedAll(x, text);
        Check.granted(x, "piece(39)", x.piece(39), 1);
        Check.due("LONG", x.note(0, 1), 3);
        Check.feedAll(x, text);
        Check.granted(x, "piece(40)", x.piece(40), 1);
        Check.due("LONG", x.note(0, 1), 34);
        Check.feedAll(x, text);
        Check.refused(x, "piece(51)", x.piece(51), 4);
        Check.due("where()", x.where(), 46);
        Check.feedAll(x, text);
        Check.refused(x, "piece(52)", x.piece(52), 4);
        Check.due("where()", x.where(), 52);
    }

    private static void whatIsTold() {
        HeadTrees x = Check.of("piece bar 8 beat 2 key 5;note 65 long 4;note 69 long 1;note 72 long 1;"
                + "note 67 long 2;note 0 long 8;rule step 7;rule close 0;rule strong 99");
        int[] about = {8, 2, 5, 5, 16, 2};
        for (int what = 0; what < 6; what++) {
            Check.granted(x, "about " + what, x.about(what), about[what]);
        }
        Check.refused(x, "about(6)", x.about(6), 1);
        Check.refused(x, "about(-1)", x.about(-1), 1);
        int[][] notes = {
            {65, 4, 0, 3, 2}, {69, 1, 4, 2, 1}, {72, 1, 5, 0, 1}, {67, 2, 6, 1, 0}, {0, 8, 8, 3, 1}};
        for (int k = 0; k < 5; k++) {
            for (int what = 0; what < 5; what++) {
                Check.granted(x, "note " + k + " " + what, x.note(k, what), notes[k][what]);
            }
        }
        Check.refused(x, "note(5, 0)", x.note(5, 0), 1);
        Check.refused(x, "note(-1, 0)", x.note(-1, 0), 1);
        Check.refused(x, "note(0, 6)", x.note(0, 6), 1);
        Check.refused(x, "note(0, -1)", x.note(0, -1), 1);
        int[] weights = {99, 0, 0, 7, 0, 0};
        for (int rule = 0; rule < 6; rule++) {
            Check.granted(x, "weight " + rule, x.weight(rule), weights[rule]);
        }
        Check.refused(x, "weight(6)", x.weight(6), 1);
        Check.refused(x, "weight(-1)", x.weight(-1), 1);
        Check.due("where() but by 4", x.where(), -1);
    }

    /** A bar of an odd number has its half between two beats; a BEAT need not divide the BAR. */
    private static void strengths() {
        HeadTrees x = Check.of("piece bar 7 beat 3 key 0;note 1 long 3;note 1 long 4;note 1 long 1;"
                + "note 1 long 1;note 1 long 5;note 1 long 7;note 1 long 1");
        int[] due = {3, 1, 3, 0, 1, 3, 3};
        for (int k = 0; k < 7; k++) {
            Check.due("STRENGTH of " + k, x.note(k, 3), due[k]);
        }
    }

    private static void stables() {
        HeadTrees x = Check.of("piece bar 1 beat 1 key 0;note 60 long 1");
        int[] due = {2, 0, 0, 0, 1, 0, 0, 1, 0, 0, 0, 0};
        for (int pitch = 0; pitch < 100; pitch++) {
            for (int key = 0; key < 12; key++) {
                x = pitch % 12 == 0 && key == 0 ? Check.of("piece bar 1 beat 1 key 0;note 60 long 1") : x;
                x.pitch(0, pitch);
                x.key(key);
                Check.due("STABLE of " + pitch + " in " + key, x.note(0, 4), due[(pitch - key + 12) % 12]);
            }
        }
    }

    public static void main(String[] args) {
        newObject();
        tape();
        bytes();
        form();
        otherFaults();
        fair();
        again();
        cut();
        whatIsTold();
        strengths();
        stables();
        Check.end("TextTest");
    }
}
