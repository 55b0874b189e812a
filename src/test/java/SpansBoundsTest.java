/** NOTES, joinings and SPANS: each sentence of terms II, and of promises 6 to 16, that names a boundary. */
public final class SpansBoundsTest {
    private static final String HEAD = "piece bar 4 beat 1 key 0";

    private static String notes(int[] pitches, int[] lengths) {
        StringBuilder text = new StringBuilder();
        for (int k = 0; k < pitches.length; k++) {
            text.append(";note ").append(pitches[k]).append(" long ").append(lengths[k]);
        }
        return text.toString();
    }

    private static String alike(int count) {
        return HEAD + ";note 5 long 1".repeat(count);
    }

    // ---- terms II: NOTES

    private static void begins() {
        Check.sentence("II: A NOTE BEGINS when the one ahead is over (the first: at 0)");
        HeadTrees x = Check.of("piece bar 64 beat 64 key 11" + ";note 99 long 64".repeat(24));
        for (int k = 0; k < 24; k++) {
            Check.due("NOTE " + k, x.note(k, 2), 64 * k);
        }
        x.last(0, 1);
        Check.due("the first", x.note(0, 2), 0);
        Check.due("the second", x.note(1, 2), 1);
        Check.due("the last", x.note(23, 2), 23 * 64 - 63);
    }

    /** The NOTE behind one of that LONG, or behind one more of 64. */
    private static void strength(int bar, int beat, int[] begins, int want) {
        HeadTrees x = Check.of("piece bar " + bar + " beat " + beat + " key 0" + notes(new int[3], new int[] {1, 64, 1}));
        for (int begin : begins) {
            boolean later = begin > 64;
            x.last(0, later ? begin - 64 : begin);
            Check.due("BAR " + bar + ", BEAT " + beat + ", at " + begin, x.note(later ? 2 : 1, 3), want);
        }
    }

    private static void strengths() {
        Check.sentence("II: STRENGTH of it: 3 if it BEGINS at a multiple of BAR");
        for (int bar = 1; bar <= 64; bar++) {
            HeadTrees x = Check.of("piece bar " + bar + " beat " + bar + " key 0;note 1 long 1");
            Check.due("at 0, BAR " + bar, x.note(0, 3), 3);
        }
        strength(1, 1, new int[] {1, 2, 63, 64, 65, 128}, 3);
        strength(2, 1, new int[] {2, 64, 66}, 3);
        strength(5, 3, new int[] {5, 15, 60, 75}, 3);
        strength(64, 64, new int[] {64, 128}, 3);
        Check.sentence("II: else 2 if twice that is one");
        strength(2, 1, new int[] {1, 3, 63, 65}, 2);
        strength(2, 2, new int[] {1, 3, 63, 65}, 2);
        strength(4, 4, new int[] {2, 6, 62, 66}, 2);
        strength(6, 2, new int[] {3, 9, 63, 69}, 2);
        strength(64, 64, new int[] {32, 96}, 2);
        Check.sentence("II: else 1 if it is a multiple of BEAT");
        strength(4, 1, new int[] {1, 3, 5, 63, 65}, 1);
        strength(3, 1, new int[] {1, 2, 4, 64, 65}, 1);
        strength(7, 3, new int[] {3, 6, 9, 12, 18, 66}, 1);
        strength(64, 31, new int[] {31, 62, 93}, 1);
        Check.sentence("II: else 0");
        strength(4, 4, new int[] {1, 3, 5, 63, 65}, 0);
        strength(6, 2, new int[] {1, 5, 7, 11, 61}, 0);
        strength(7, 3, new int[] {1, 2, 4, 5, 8, 10}, 0);
        strength(64, 64, new int[] {1, 31, 33, 63, 65, 127}, 0);
    }

    private static void stable(int pitch, int key, int want) {
        HeadTrees x = Check.of("piece bar 4 beat 1 key " + key + ";note " + pitch + " long 1");
        Check.due("PITCH " + pitch + ", KEY " + key, x.note(0, 4), want);
    }

    private static void stables() {
        Check.sentence("II: STABLE: PITCH less KEY modulo 12: 0: 2; 4, 7: 1; else 0");
        int[] due = {2, 0, 0, 0, 1, 0, 0, 1, 0, 0, 0, 0};
        for (int pitch = 0; pitch < 12; pitch++) {
            stable(pitch, 0, due[pitch]);
            stable(pitch + 84, 0, due[pitch]);
        }
        stable(0, 11, 0);
        stable(0, 8, 1);
        stable(0, 5, 1);
        stable(0, 1, 0);
        stable(0, 4, 0);
        stable(0, 7, 0);
        stable(3, 11, 1);
        stable(6, 11, 1);
        stable(10, 11, 0);
        stable(11, 11, 2);
        stable(99, 3, 2);
        stable(99, 11, 1);
        stable(99, 8, 1);
        stable(99, 0, 0);
    }

    // ---- terms II: joinings

    private static void broken(HeadTrees x, int rule, int head, int under, int want) {
        Check.granted(x, "broken " + rule + " of " + under + " UNDER " + head, x.broken(rule, head, under, 1, 1), want);
    }

    /** STRENGTHS 3, 1, 2, 3; LONG 1, 1, 2, 64; STABLE 2, 0, 1, 2. */
    private static void rules() {
        HeadTrees x = Check.of(HEAD + notes(new int[] {60, 61, 64, 72}, new int[] {1, 1, 2, 64})
                + ";rule strong 1;rule long 1;rule stable 1;rule step 1;rule even 1;rule close 1");
        Check.sentence("II: 0 strong: by how much UNDER's STRENGTH is greater than HEAD's");
        broken(x, 0, 1, 0, 2);
        broken(x, 0, 2, 0, 1);
        broken(x, 0, 1, 2, 1);
        Check.sentence("II: 1 long: LONG likewise");
        broken(x, 1, 0, 3, 63);
        broken(x, 1, 0, 2, 1);
        Check.sentence("II: 2 stable: STABLE likewise");
        broken(x, 2, 1, 0, 2);
        broken(x, 2, 1, 2, 1);
        broken(x, 2, 2, 3, 1);
        Check.sentence("II: (Each 0 if it isn't greater.)");
        broken(x, 0, 0, 3, 0);
        broken(x, 0, 0, 1, 0);
        broken(x, 1, 0, 1, 0);
        broken(x, 1, 2, 1, 0);
        broken(x, 1, 3, 0, 0);
        broken(x, 2, 0, 3, 0);
        broken(x, 2, 0, 1, 0);
        broken(x, 3, 0, 1, 0);
        broken(x, 3, 1, 0, 0);
        steps(x);
        Check.sentence("II: 4 even: by how many NOTES both parts differ");
        Check.due("1 and 1", x.broken(4, 0, 1, 1, 1), 0);
        Check.due("1 and 2", x.broken(4, 0, 1, 1, 2), 1);
        Check.due("2 and 1", x.broken(4, 0, 1, 2, 1), 1);
        Check.due("23 and 23", x.broken(4, 0, 1, 23, 23), 0);
        Check.due("23 and 1", x.broken(4, 0, 1, 23, 1), 22);
        Check.sentence("II: 5 close: 1 if UNDER is the PIECE's last NOTE");
        broken(x, 5, 0, 3, 1);
        broken(x, 5, 2, 3, 1);
        broken(x, 5, 3, 2, 0);
        broken(x, 5, 0, 2, 0);
        Check.sentence("II: each times its WEIGHT");
        x.weigh(1, 0);
        broken(x, 1, 0, 3, 0);
        x.weigh(1, 99);
        broken(x, 1, 0, 3, 63 * 99);
        broken(x, 1, 0, 1, 0);
    }

    private static void steps(HeadTrees x) {
        Check.sentence("II: 3 step: by how much their PITCHES are more than 2 apart");
        int[][] rows = {{50, 50, 0}, {50, 51, 0}, {50, 52, 0}, {50, 53, 1}, {53, 50, 1}, {52, 50, 0}, {0, 99, 97},
            {99, 0, 97}};
        HeadTrees y = Check.of(alike(3) + ";rule step 1");
        for (int[] row : rows) {
            y.pitch(0, row[0]);
            y.pitch(1, row[1]);
            broken(y, 3, 0, 1, row[2]);
            broken(y, 3, 1, 0, row[2]);
        }
        broken(x, 3, 0, 3, 10);
    }

    private static void splits() {
        Check.sentence("II: a SPLIT (the last NOTE of the left part, i .. j - 1)");
        HeadTrees x = Check.of(alike(4));
        Check.due("the least", x.split(0, 3), 0);
        Check.due("of the last two", x.split(2, 3), 2);
        x = Check.of(HEAD + notes(new int[] {0, 10, 20, 90}, new int[] {1, 2, 3, 4}) + ";rule long 9;rule step 1");
        Check.due("the most", x.split(0, 3), 2);
        Check.sentence("II: BREAKS of a TREE: of all its joinings");
        Check.due("three of them", x.breaks(0, 3), 8 + 8 + 68);
        Check.due("two of them", x.breaks(0, 2), 8 + 8);
        Check.due("one of them", x.breaks(2, 3), 68);
        Check.due("none", x.breaks(3, 3), 0);
    }

    private static void joining(HeadTrees x, int i, int[] want) {
        for (int what = 0; what < want.length; what++) {
            Check.granted(x, "joining " + i + " " + what, x.joining(i, what), want[what]);
        }
    }

    /** The best of split 0 is 3 UNDER 0; as little breaks 2 UNDER 0 by split 1. */
    private static void leastSplit() {
        Check.sentence("II: of like ones that with the least SPLIT");
        HeadTrees x = Check.of(HEAD + notes(new int[] {64, 60, 65, 64}, new int[] {1, 1, 1, 1}) + ";rule step 2");
        Check.due("SPLIT 1 breaks as little", x.splitCost(0, 3, 1), 0);
        Check.due("SPLIT 2 breaks as little", x.splitCost(0, 3, 2), 0);
        joining(x, 0, new int[] {0, 3, 0, 0, 3, 0});
        Check.sentence("II: both parts being BEST with theirs");
        Check.due("breaksBy(1, 3, 2)", x.breaksBy(1, 3, 2), 6);
        joining(x, 1, new int[] {1, 3, 1, 3, 1, 4});
        Check.due("HEAD of 2 .. 3 alone", x.head(2, 3), 2);
        joining(x, 2, new int[] {2, 3, 2, 3, 2, 0});
        x = Check.of(HEAD + notes(new int[] {60, 63, 60}, new int[] {2, 3, 1}) + ";rule step 1;rule long 1");
        Check.due("HEAD of 0 .. 1 alone", x.head(0, 1), 1);
        joining(x, 1, new int[] {0, 1, 0, 0, 1, 2});
        x = Check.of(alike(3) + ";rule close 1");
        joining(x, 0, new int[] {0, 2, 0, 2, 0, 0});
        joining(x, 1, new int[] {1, 2, 1, 2, 1, 0});
    }

    /** Pairs by even; NOTE 2 as HEAD of its pair breaks long by 3, NOTE 3 UNDER 0 step by as much. */
    private static void leastUnder() {
        Check.sentence("II: then the least UNDER");
        HeadTrees x = Check.of(HEAD + notes(new int[] {60, 60, 60, 65}, new int[] {9, 1, 1, 4})
                + ";rule even 50;rule long 1;rule step 1");
        Check.due("breaks", x.breaks(0, 3), 6);
        joining(x, 0, new int[] {0, 3, 1, 0, 2, 0});
        x.last(3, 3);
        joining(x, 0, new int[] {0, 3, 1, 0, 2, 0});
        x.last(3, 5);
        joining(x, 0, new int[] {0, 3, 1, 0, 3, 3});
    }

    /** HEAD 0 breaks 2 by SPLIT 1 alone, HEAD 1 as much by both. */
    private static void leastHead() {
        Check.sentence("II: BEST of a SPAN: with the HEAD by which it BREAKS least, of like ones the least");
        HeadTrees x = Check.of(HEAD + notes(new int[] {60, 63, 60}, new int[] {2, 3, 1}) + ";rule step 1;rule long 1");
        Check.due("breaksBy(0, 2, 0)", x.breaksBy(0, 2, 0), 2);
        Check.due("breaksBy(0, 2, 1)", x.breaksBy(0, 2, 1), 2);
        Check.due("SPLIT 0 breaks as little", x.splitCost(0, 2, 0), 0);
        joining(x, 0, new int[] {0, 2, 1, 0, 2, 0});
        joining(x, 1, new int[] {0, 1, 0, 0, 1, 2});
        Check.due("ways", x.ways(0, 2), 3);
        x.last(1, 4);
        Check.due("HEAD that breaks least", x.head(0, 2), 1);
        Check.due("its SPLIT", x.split(0, 2), 0);
    }

    // ---- promises 6 to 8

    private static void aboutAll(HeadTrees x, int[] want) {
        for (int what = 0; what < 6; what++) {
            Check.granted(x, "about " + what, x.about(what), want[what]);
        }
    }

    private static void about() {
        Check.sentence("6: 0 BAR, 1 BEAT, 2 KEY, 3 NOTES");
        aboutAll(Check.of("piece bar 1 beat 1 key 0;note 0 long 1"), new int[] {1, 1, 0, 1, 1, 0});
        Check.sentence("6: 4 LONG of all together");
        HeadTrees x = Check.of("piece bar 64 beat 64 key 11" + ";note 99 long 64".repeat(24)
                + ";rule strong 99;rule long 99;rule stable 99;rule step 99;rule even 99;rule close 99");
        aboutAll(x, new int[] {64, 64, 11, 24, 1536, 6});
        x.last(23, 1);
        Check.due("LONG of all", x.about(4), 1473);
        Check.sentence("6: 5 RULES with a WEIGHT above 0");
        for (int rule = 0; rule < 6; rule++) {
            x.weigh(rule, 0);
            Check.due("without " + rule, x.about(5), 5 - rule);
        }
        x.weigh(5, 1);
        Check.due("with one of 1", x.about(5), 1);
        Check.due("told as 0", Check.of(alike(1) + ";rule even 0;rule close 1").about(5), 1);
    }

    private static void note() {
        Check.sentence("7: Of a NOTE 0 PITCH, 1 LONG, 2 when it BEGINS, 3 STRENGTH, 4 STABLE, 5 RANK");
        HeadTrees x = Check.of("piece bar 64 beat 1 key 3" + notes(new int[] {0, 99}, new int[] {64, 1}));
        int[][] want = {{0, 64, 0, 3, 0, 0}, {99, 1, 64, 3, 2, 1}};
        for (int k = 0; k < 2; k++) {
            for (int what = 0; what < 6; what++) {
                Check.granted(x, "note " + k + " " + what, x.note(k, what), want[k][what]);
            }
        }
        Check.sentence("8: WEIGHT of a RULE");
        x.weigh(5, 99);
        Check.granted(x, "the most", x.weight(5), 99);
        Check.granted(x, "the least", x.weight(0), 0);
    }

    // ---- promises 9 to 16

    private static void oneNote() {
        HeadTrees x = Check.of(alike(3) + ";rule close 9;rule even 9");
        for (int k = 0; k < 3; k++) {
            Check.sentence("9: BREAKS of BEST of a SPAN, of one NOTE");
            Check.granted(x, "breaks", x.breaks(k, k), 0);
            Check.sentence("10: Its HEAD, of one NOTE");
            Check.granted(x, "head", x.head(k, k), k);
            Check.sentence("11: -2 of one NOTE");
            Check.granted(x, "split", x.split(k, k), -2);
            Check.sentence("12: BREAKS of BEST of a SPAN with a HEAD, of one NOTE");
            Check.granted(x, "breaksBy", x.breaksBy(k, k, k), 0);
            Check.sentence("13: How many TREES, of one NOTE");
            Check.granted(x, "ways", x.ways(k, k), 1);
            Check.sentence("15: -2 of one NOTE");
            Check.granted(x, "second", x.second(k, k), -2);
        }
    }

    private static void twoNotes() {
        HeadTrees x = Check.of("piece bar 64 beat 64 key 3" + notes(new int[] {0, 99}, new int[] {1, 64})
                + ";rule strong 99;rule long 99;rule stable 99;rule step 99;rule even 99;rule close 99");
        Check.sentence("9: BREAKS of BEST of a SPAN, as many as two NOTES can");
        Check.granted(x, "breaks", x.breaks(0, 1), 99 * (3 + 97));
        Check.sentence("10: Its HEAD, of two NOTES");
        Check.granted(x, "head", x.head(0, 1), 1);
        Check.sentence("11: Its SPLIT, of two NOTES");
        Check.granted(x, "split", x.split(0, 1), 0);
        Check.sentence("12: BREAKS of BEST of a SPAN with a HEAD, the first or the last NOTE");
        Check.granted(x, "breaksBy 0", x.breaksBy(0, 1, 0), 99 * (63 + 2 + 97 + 1));
        Check.granted(x, "breaksBy 1", x.breaksBy(0, 1, 1), 99 * (3 + 97));
        Check.sentence("15: The HEAD, but BEST's, of two NOTES");
        Check.granted(x, "second", x.second(0, 1), 0);
        Check.granted(x, "second of like ones", Check.of(alike(2)).second(0, 1), 1);
    }

    /** A text of 24 NOTES that breaks all RULES by WEIGHTS of 99; all sums beside the Model's. */
    private static void mostNotes() {
        StringBuilder text = new StringBuilder("piece bar 64 beat 63 key 3");
        for (int k = 0; k < 24; k++) {
            text.append(";note ").append(k % 2 == 0 ? 0 : 99 - k).append(" long ").append(1 + k * 61 % 64);
        }
        text.append(";rule strong 99;rule long 99;rule stable 99;rule step 99;rule even 99;rule close 99");
        HeadTrees x = Check.of(text.toString());
        Model m = new Model();
        for (int from = 0; from < text.length(); from += 20) {
            String t = text.toString();
            m.feed(Check.number(t, from), Check.number(t, from + 4), Check.number(t, from + 8),
                    Check.number(t, from + 12), Check.number(t, from + 16));
        }
        m.piece(text.length());
        for (int k = 0; k < 24; k++) {
            Check.sentence("9: BREAKS of BEST of a SPAN, of 24 NOTES of great WEIGHTS");
            Check.granted(x, "breaks 0 " + k, x.breaks(0, k), m.breaks(0, k));
            Check.granted(x, "breaks " + k + " 23", x.breaks(k, 23), m.breaks(k, 23));
            Check.sentence("10: Its HEAD, of 24 NOTES");
            Check.granted(x, "head 0 " + k, x.head(0, k), m.head(0, k));
            Check.sentence("11: Its SPLIT, of 24 NOTES");
            Check.granted(x, "split 0 " + k, x.split(0, k), m.split(0, k));
            Check.sentence("12: BREAKS of BEST of a SPAN with a HEAD, of 24 NOTES");
            Check.granted(x, "breaksBy " + k, x.breaksBy(0, 23, k), m.breaksBy(0, 23, k));
        }
    }

    private static void ways() {
        Check.sentence("13: How many TREES of a SPAN (SPLITS and HEADS) break as little as BEST");
        HeadTrees x = Check.of(alike(24));
        long[] due = {1, 2, 8, 40, 224, 1344};
        for (int n = 1; n <= 6; n++) {
            Check.granted(x, "ways of " + n, x.ways(7, 6 + n), due[n - 1]);
        }
        Check.sentence("13: 1,000,000,000,000 if there are more");
        Check.granted(x, "ways of 16", x.ways(0, 15), 317_680_680_960L);
        for (int n = 17; n <= 24; n++) {
            Check.granted(x, "ways of " + n, x.ways(24 - n, 23), 1_000_000_000_000L);
        }
        x.weigh(4, 1);
        Check.granted(x, "ways by even", x.ways(0, 15), 32768);
    }

    private static void splitCost() {
        Check.sentence("14: By how much more BEST of those TREES breaks of which the SPLIT is that one");
        HeadTrees x = Check.of(alike(24) + ";rule even 99");
        Check.granted(x, "of two", x.splitCost(0, 1, 0), 0);
        Check.granted(x, "of three, the first", x.splitCost(0, 2, 0), 0);
        Check.granted(x, "of three, the last", x.splitCost(0, 2, 1), 0);
        Check.granted(x, "of four, the first", x.splitCost(4, 7, 4), 99 * 3);
        Check.granted(x, "of four, the middle", x.splitCost(4, 7, 5), 0);
        Check.granted(x, "of four, the last", x.splitCost(4, 7, 6), 99 * 3);
        Check.granted(x, "of all, the first", x.splitCost(0, 23, 0), x.breaks(1, 23) + 99 * 22 - x.breaks(0, 23));
        Check.granted(x, "of all, the last", x.splitCost(0, 23, 22), x.breaks(0, 22) + 99 * 22 - x.breaks(0, 23));
        Check.due("of all, the best", x.splitCost(0, 23, x.split(0, 23)), 0);
    }

    private static void second() {
        Check.sentence("15: The HEAD, but BEST's, with which a SPAN breaks least, of like ones the least");
        HeadTrees x = Check.of(HEAD + notes(new int[] {5, 5, 5, 5}, new int[] {1, 1, 1, 1}));
        Check.granted(x, "all alike", x.second(0, 3), 1);
        Check.granted(x, "the last ones", x.second(2, 3), 3);
        x.weigh(1, 1);
        x.last(3, 4);
        Check.due("HEAD 3", x.head(0, 3), 3);
        Check.granted(x, "least of the rest", x.second(0, 3), 0);
        x.last(2, 2);
        Check.granted(x, "the best of the rest", x.second(0, 3), 2);
        x.last(2, 4);
        Check.due("HEAD 2 of like ones", x.head(0, 3), 2);
        Check.granted(x, "one as good as BEST", x.second(0, 3), 3);
    }

    private static void brokenBounds() {
        Check.sentence("16: in parts of as many NOTES as told (1 .. 23 each)");
        HeadTrees x = Check.of(alike(2) + ";rule even 3");
        Check.granted(x, "1, 1", x.broken(4, 0, 1, 1, 1), 0);
        Check.granted(x, "1, 23", x.broken(4, 0, 1, 1, 23), 66);
        Check.granted(x, "23, 1", x.broken(4, 1, 0, 23, 1), 66);
        Check.granted(x, "23, 23", x.broken(4, 1, 0, 23, 23), 0);
        Check.sentence("16: the first being HEAD, the other UNDER");
        x.weigh(1, 1);
        x.last(1, 64);
        Check.granted(x, "1 UNDER 0", x.broken(1, 0, 1, 1, 1), 63);
        Check.granted(x, "0 UNDER 1", x.broken(1, 1, 0, 1, 1), 0);
    }

    public static void main(String[] args) {
        begins();
        strengths();
        stables();
        rules();
        splits();
        leastSplit();
        leastUnder();
        leastHead();
        about();
        note();
        oneNote();
        twoNotes();
        mostNotes();
        ways();
        splitCost();
        second();
        brokenBounds();
        Check.end("SpansBoundsTest");
    }
}
