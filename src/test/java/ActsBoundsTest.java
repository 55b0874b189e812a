/** ACTS and what is told: each sentence of the terms, and of promises 39 to 44, 46 and 47, that names a boundary. */
public final class ActsBoundsTest {
    private static final String TEXT = "piece bar 4 beat 1 key 0;note 60 long 2;note 72 long 1;note 95 long 1;"
            + "rule step 2;rule close 3";

    /** An ACT at the bounds of its number: what it was, and that it is so, and is undone. */
    private static void pitch() {
        Check.sentence("39: PITCH of a NOTE: what it was (0 .. 99)");
        HeadTrees x = Check.of(TEXT);
        Check.granted(x, "the least", x.pitch(2, 0), 95);
        Check.due("it is so", x.note(2, 0), 0);
        Check.granted(x, "the most", x.pitch(2, 99), 0);
        Check.due("it is so", x.note(2, 0), 99);
        Check.granted(x, "the same", x.pitch(2, 99), 99);
        Check.granted(x, "the first NOTE", x.pitch(0, 1), 60);
        Check.due("the others stay", x.note(1, 0), 72);
        Check.due("size(1)", x.size(1), 4);
        Check.due("undo()", x.undo(), true);
        Check.due("the first as ahead", x.note(0, 0), 60);
    }

    private static void last() {
        Check.sentence("40: LONG of a NOTE: what it was (1 .. 64)");
        HeadTrees x = Check.of(TEXT);
        Check.granted(x, "the most", x.last(2, 64), 1);
        Check.due("it is so", x.note(2, 1), 64);
        Check.granted(x, "the least", x.last(2, 1), 64);
        Check.due("it is so", x.note(2, 1), 1);
        Check.granted(x, "the same", x.last(2, 1), 1);
        Check.granted(x, "the first NOTE", x.last(0, 64), 2);
        Check.due("the next BEGINS", x.note(1, 2), 64);
        Check.due("its STRENGTH", x.note(1, 3), 3);
        Check.due("size(1)", x.size(1), 4);
        Check.due("undo()", x.undo(), true);
        Check.due("the next BEGINS as ahead", x.note(1, 2), 2);
        Check.due("its STRENGTH as ahead", x.note(1, 3), 2);
    }

    private static void weigh() {
        Check.sentence("41: WEIGHT of a RULE: what it was (0 .. 99)");
        HeadTrees x = Check.of(TEXT);
        Check.granted(x, "the most", x.weigh(5, 99), 3);
        Check.due("it is so", x.weight(5), 99);
        Check.granted(x, "the least", x.weigh(5, 0), 99);
        Check.due("it is so", x.weight(5), 0);
        Check.granted(x, "the same", x.weigh(5, 0), 0);
        Check.granted(x, "the first RULE", x.weigh(0, 1), 0);
        Check.due("the others stay", x.weight(3), 2);
        Check.due("size(1)", x.size(1), 4);
        Check.due("undo()", x.undo(), true);
        Check.due("the first as ahead", x.weight(0), 0);
    }

    private static void key() {
        Check.sentence("42: KEY: what it was (0 .. 11)");
        HeadTrees x = Check.of(TEXT);
        Check.granted(x, "the most", x.key(11), 0);
        Check.due("it is so", x.about(2), 11);
        Check.due("STABLE", x.note(2, 4), 2);
        Check.granted(x, "the least", x.key(0), 11);
        Check.due("STABLE", x.note(0, 4), 2);
        Check.granted(x, "the same", x.key(0), 0);
        Check.due("size(1)", x.size(1), 3);
        x.undo();
        Check.due("undo()", x.undo(), true);
        Check.due("as ahead", x.about(2), 11);
    }

    private static void move() {
        Check.sentence("43: All PITCHES are more by that (-99 .. 99; 0, too)");
        HeadTrees x = Check.of("piece bar 4 beat 1 key 0;note 0 long 1;note 0 long 1");
        Check.granted(x, "the most", x.move(99), 0);
        Check.due("PITCH", x.note(1, 0), 99);
        Check.granted(x, "the least", x.move(-99), 0);
        Check.due("PITCH", x.note(0, 0), 0);
        Check.granted(x, "by 0", x.move(0), 0);
        Check.due("size(1)", x.size(1), 3);
        Check.due("undo() of 0", x.undo(), true);
        Check.due("PITCH", x.note(0, 0), 0);
        Check.due("undo() of -99", x.undo(), true);
        Check.due("PITCH", x.note(0, 0), 99);
        Check.sentence("43: BREAKS of THE TREE then");
        x = Check.of("piece bar 1 beat 1 key 0;note 60 long 1;note 61 long 1;rule stable 4;rule close 1");
        Check.due("ahead", x.breaks(0, 1), 1);
        Check.granted(x, "then", x.move(-1), 0);
        Check.granted(x, "by 0", x.move(0), 0);
        Check.sentence("43: 2 (-99 .. 99)");
        for (int by : new int[] {100, -100, 1000, Integer.MAX_VALUE, Integer.MIN_VALUE}) {
            Check.refused(x, "move " + by, x.move(by), 2);
        }
        Check.sentence("43: 5 (some would leave 0 .. 99)");
        x = Check.of(TEXT);
        Check.granted(x, "just up to 99", x.move(4), x.breaks(0, 2));
        Check.refused(x, "one more", x.move(1), 5);
        Check.granted(x, "just down to 0", x.move(-64), x.breaks(0, 2));
        Check.refused(x, "one less", x.move(-1), 5);
        Check.refused(x, "99", x.move(99), 5);
        Check.refused(x, "-99", x.move(-99), 5);
        Check.due("none has moved", x.note(0, 0) + 100 * x.note(1, 0) + 10000 * x.note(2, 0), 351200);
        Check.due("refused ones are no ACTS", x.size(1), 2);
    }

    // ---- UNDO

    private static void undo() {
        Check.sentence("44: UNDO: true");
        HeadTrees x = Check.of(TEXT);
        x.pitch(0, 1);
        Check.refused(x, "pitch(0, 100)", x.pitch(0, 100), 2);
        Check.due("undo()", x.undo(), true);
        Check.due("trouble()", x.trouble(), 0);
        Check.due("PITCH", x.note(0, 0), 60);
        Check.sentence("44: false: 1 (there is nothing)");
        Check.due("undo()", x.undo(), false);
        Check.due("trouble()", x.trouble(), 1);
        x = new HeadTrees();
        Check.due("undo() without a PIECE", x.undo(), false);
        Check.due("trouble()", x.trouble(), 1);
        x = Check.of(TEXT);
        Check.due("undo() without an ACT", x.undo(), false);
        x.pitch(0, 100);
        x.keep();
        x.swayed(0, 9);
        Check.due("undo() of what is no ACT", x.undo(), false);
        Check.sentence("II: UNDO: the latest ACT not undone yet");
        x.weigh(0, 1);
        x.weigh(0, 2);
        x.undo();
        Check.due("WEIGHT", x.weight(0), 1);
        x.weigh(0, 3);
        x.undo();
        Check.due("WEIGHT", x.weight(0), 1);
        x.undo();
        Check.due("WEIGHT", x.weight(0), 0);
        Check.due("undo()", x.undo(), false);
    }

    private static void tenAreKept() {
        Check.sentence("II: (10 are kept)");
        HeadTrees x = Check.of(TEXT);
        for (int acts = 1; acts <= 9; acts++) {
            x.weigh(0, acts);
            Check.due("size(1)", x.size(1), acts);
        }
        x.weigh(0, 10);
        Check.due("size(1)", x.size(1), 10);
        x.weigh(0, 11);
        Check.due("size(1)", x.size(1), 10);
        for (int acts = 10; acts >= 1; acts--) {
            Check.due("undo()", x.undo(), true);
            Check.due("WEIGHT", x.weight(0), acts);
            Check.due("size(1)", x.size(1), acts - 1);
        }
        Check.due("undo() of the first", x.undo(), false);
        Check.due("WEIGHT", x.weight(0), 1);
        for (int acts = 0; acts < 25; acts++) {
            x.weigh(0, 50 + acts);
        }
        for (int acts = 23; acts >= 14; acts--) {
            Check.due("undo()", x.undo(), true);
            Check.due("WEIGHT", x.weight(0), 50 + acts);
        }
        Check.due("undo() of an eleventh", x.undo(), false);
        Check.sentence("II: ACTS: PITCH, LONG of a NOTE, a WEIGHT, the KEY, all PITCHES moved");
        x.pitch(1, 3);
        x.last(1, 9);
        x.weigh(4, 8);
        x.key(7);
        x.move(1);
        Check.due("size(1)", x.size(1), 5);
        x.undo();
        Check.due("PITCH", x.note(1, 0), 3);
        x.undo();
        Check.due("KEY", x.about(2), 0);
        x.undo();
        Check.due("WEIGHT", x.weight(4), 0);
        x.undo();
        Check.due("LONG", x.note(1, 1), 1);
        x.undo();
        Check.due("PITCH", x.note(1, 0), 72);
    }

    private static void analysis() {
        Check.sentence("II: AN ANALYSIS kept: THE TREE as it is then");
        HeadTrees x = Check.of("piece bar 1 beat 1 key 0" + ";note 5 long 1".repeat(3));
        x.weigh(5, 2);
        x.keep();
        x.undo();
        Check.due("not as it was ahead", x.unlike(1), 2);
        x.weigh(5, 1);
        Check.due("as it is once more", x.unlike(1), 0);
        Check.due("what it breaks", x.keptBreaks(), 0);
    }

    // ---- what is told

    private static void sizes() {
        Check.sentence("46: 0 bytes of THE TAPE");
        HeadTrees x = new HeadTrees();
        Check.due("none", x.size(0), 0);
        Check.feed(x, "x", 0);
        Check.due("twenty", x.size(0), 20);
        Check.sentence("46: 1 what can be undone");
        Check.due("none", x.size(1), 0);
        x = Check.of(TEXT);
        x.key(0);
        Check.due("one", x.size(1), 1);
        x.undo();
        Check.due("none", x.size(1), 0);
        Check.sentence("46: 2 1 if AN ANALYSIS is kept, 0");
        Check.due("none", x.size(2), 0);
        x.keep();
        x.keep();
        Check.due("one", x.size(2), 1);
        x.key(0);
        x.undo();
        Check.due("one yet", x.size(2), 1);
        Check.sentence("46: NONE for others");
        x.about(9);
        for (int what : new int[] {-1, 3, 256, Integer.MIN_VALUE, Integer.MAX_VALUE}) {
            Check.due("size " + what, x.size(what), -1);
        }
        Check.due("which no number refuses", x.trouble(), 1);
        x.about(0);
        x.size(3);
        Check.due("which no number refuses", x.trouble(), 0);
    }

    private static void troubles() {
        Check.sentence("47: TROUBLE");
        HeadTrees x = new HeadTrees();
        Check.due("of a new object", x.trouble(), 0);
        x.about(0);
        Check.due("1 there is none such", x.trouble(), 1);
        x.piece(-1);
        Check.due("2 a number", x.trouble(), 2);
        x.piece(0);
        Check.due("4 a FAULT", x.trouble(), 4);
        Check.read(x, TEXT);
        Check.due("0 it wasn't", x.trouble(), 0);
        x.move(99);
        Check.due("5 not so", x.trouble(), 5);
        Check.due("5 yet", x.trouble(), 5);
        x.undo();
        Check.due("1 of undo()", x.trouble(), 1);
        x.key(1);
        x.key(12);
        Check.due("2 of key()", x.trouble(), 2);
        x.undo();
        Check.due("0 of undo()", x.trouble(), 0);
        Check.sentence("III: TROUBLE of the latest call that may be refused (those of which a number is told here)");
        x.move(99);
        Check.feed(x, "x", 0);
        x.fault();
        x.where();
        x.bare(0);
        Check.throwsNone("bare(-1)", x, -1);
        x.size(0);
        x.size(7);
        Check.due("behind all calls that none refuses", x.trouble(), 5);
        for (int fed = 0; fed < 40; fed++) {
            Check.feed(x, "x", 0);
        }
        Check.due("behind feed() beyond 700", x.trouble(), 5);
    }

    /** Of each kind a call that is right up to the last one that is promised. */
    private static void lastCall() {
        Check.sentence("An object is used for at most 512 calls after it has been made");
        HeadTrees x = new HeadTrees();
        int calls = 0;
        for (int from = 0; from < TEXT.length(); from += 20) {
            Check.feed(x, TEXT, from);
            calls++;
        }
        x.piece(TEXT.length());
        calls++;
        for (; calls + 5 <= 512; calls += 5) {
            int v = calls % 100;
            x.weigh(0, v);
            Check.due("swayed()", x.swayed(0, 99), 65);
            Check.due("pitch()", x.pitch(0, 60), 60);
            Check.due("undo()", x.undo(), true);
            Check.due("weight()", x.weight(0), v);
        }
        for (; calls < 512; calls++) {
            Check.due("breaks()", x.breaks(0, 1), 20);
        }
    }

    public static void main(String[] args) {
        pitch();
        last();
        weigh();
        key();
        move();
        undo();
        tenAreKept();
        analysis();
        sizes();
        troubles();
        lastCall();
        Check.end("ActsBoundsTest");
    }
}
