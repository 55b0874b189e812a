import java.util.NoSuchElementException;
import java.util.Random;

/** Random runs of calls, the class beside the Model: each answer, and TROUBLE behind each. */
public final class RandomRunsTest {
    private static final int CALLS = 46;
    private static final int THROWN = -77;
    // An object has 512 calls; so many are kept for the next step of a run.
    private static final int CALLS_OF_OBJECT = 512;
    private static final int CALLS_OF_PIECE = 100;
    private static final int CALLS_OF_STEP = 26;
    private static final int[] ODD = {
        -1, -2, 0, 1, 2, 5, 6, 7, 10, 23, 24, 25, 63, 64, 65, 99, 100, -99, -100, 700, 701,
        Integer.MAX_VALUE, Integer.MIN_VALUE, Integer.MAX_VALUE - 1, 1 << 30, -(1 << 30)};

    private final Random random;
    private final HeadTrees x = new HeadTrees();
    private final Model m = new Model();
    private final int mostNotes;
    private final int slowOneIn;
    private int notes = 0;
    private int calls = 0;

    private RandomRunsTest(long seed, int mostNotes, int slowOneIn) {
        random = new Random(seed);
        this.mostNotes = mostNotes;
        this.slowOneIn = slowOneIn;
    }

    private int below(int n) {
        return random.nextInt(n);
    }

    private boolean oneIn(int n) {
        return below(n) == 0;
    }

    private int number(int low, int high) {
        return oneIn(12) ? ODD[below(ODD.length)] : low + below(high - low + 1);
    }

    private int note() {
        return number(0, Math.max(0, notes - 1));
    }

    private String blanks() {
        return oneIn(8) ? "  " : " ";
    }

    private String text() {
        int bar = 1 + below(oneIn(3) ? 64 : 8);
        int beat = 1 + below(bar);
        StringBuilder t = new StringBuilder("piece bar" + blanks() + bar + " beat " + beat + " key " + below(12));
        int count = 1 + below(mostNotes);
        int spread = oneIn(2) ? 100 : 6;
        int low = below(101 - spread);
        int longest = oneIn(3) ? 64 : 3;
        int[] order = {0, 1, 2, 3, 4, 5};
        String[] names = {"strong", "long", "stable", "step", "even", "close"};
        int heaviest = oneIn(3) ? 100 : oneIn(2) ? 10 : 3;
        int rules = 0;
        for (int k = 0; k < count; k++) {
            t.append(";note ").append(low + below(spread)).append(" long ").append(1 + below(longest));
            if (rules < 6 && oneIn(2) || k == count - 1) {
                for (; rules < 6 && (k == count - 1 ? !oneIn(6) : !oneIn(2)); rules++) {
                    int other = rules + below(6 - rules);
                    int rule = order[other];
                    order[other] = order[rules];
                    order[rules] = rule;
                    t.append(";rule ").append(names[rule]).append(blanks()).append(below(heaviest));
                }
            }
        }
        return t.toString();
    }

    private String spoilt(String text) {
        StringBuilder t = new StringBuilder(text);
        String[] bits = {";", " ", "x", "piece", "note", "rule", "long", "0", "1", "99", "even",
            "strong", ";note 1 long 1", ";rule even 1", "A", "\u00ff", "", "\u0000", "/", ":", "{", "`"};
        for (int times = 1 + below(2); times > 0; times--) {
            int at = below(t.length() + 1);
            int to = Math.min(t.length(), at + (oneIn(2) ? 0 : below(4)));
            t.replace(at, to, bits[below(bits.length)]);
        }
        return t.toString();
    }

    private void newPiece() {
        String text = text();
        if (oneIn(2)) {
            text = spoilt(text);
        }
        if (text.length() > 700) {
            text = text.substring(0, 700);
        }
        int clear = x.size(0);
        calls++;
        same("piece(all)", x.piece(clear), m.piece(clear));
        for (int from = 0; from < text.length(); from += 20) {
            feed(text, from);
        }
        int n = oneIn(10) ? below(text.length() + 1) : text.length();
        int got = x.piece(n);
        same("piece of " + text.substring(0, n), got, m.piece(n));
        same("fault()", x.fault(), m.fault());
        same("where()", x.where(), m.where());
        notes = x.about(3);
        same("about(3)", notes, m.about(3));
    }

    private void feed(String text, int from) {
        int a = Check.number(text, from);
        int b = Check.number(text, from + 4);
        int c = Check.number(text, from + 8);
        int d = Check.number(text, from + 12);
        int e = Check.number(text, from + 16);
        same("feed()", x.feed(a, b, c, d, e), m.feed(a, b, c, d, e));
    }

    private void same(String call, long got, long want) {
        calls += 2;
        Check.due("within 512 calls", calls <= CALLS_OF_OBJECT, true);
        Check.due(call, got, want);
        Check.due(call + ", trouble()", x.trouble(), m.trouble());
    }

    private static int bare(HeadTrees x, int i) {
        try {
            return x.bare(i);
        } catch (NoSuchElementException e) {
            return THROWN;
        }
    }

    private static int bare(Model m, int i) {
        try {
            return m.bare(i);
        } catch (NoSuchElementException e) {
            return THROWN;
        }
    }

    private void step() {
        // Some steps make no call of their own; each is counted, so that a run ends.
        calls++;
        int which = below(CALLS);
        if (which < 15) {
            callOfSpans(which);
        } else if (which < 30) {
            callOfTree(which);
        } else {
            callOfRest(which);
        }
    }

    private void callOfSpans(int which) {
        int i = note();
        int j = oneIn(4) ? note() : number(Math.max(0, i), Math.max(Math.max(0, i), notes - 1));
        int h = oneIn(4) || i < 0 || j < i || j > 24 ? note() : number(i, j);
        int what = number(0, 5);
        switch (which) {
            case 0: same("fault()", x.fault(), m.fault()); break;
            case 1: same("where()", x.where(), m.where()); break;
            case 2: same("about " + what, x.about(what), m.about(what)); break;
            case 3: case 4: same("note " + i + " " + what, x.note(i, what), m.note(i, what)); break;
            case 5: same("weight " + what, x.weight(what), m.weight(what)); break;
            case 6: same("breaks " + i + " " + j, x.breaks(i, j), m.breaks(i, j)); break;
            case 7: same("head " + i + " " + j, x.head(i, j), m.head(i, j)); break;
            case 8: same("split " + i + " " + j, x.split(i, j), m.split(i, j)); break;
            case 9: same("breaksBy " + i + " " + j + " " + h, x.breaksBy(i, j, h), m.breaksBy(i, j, h)); break;
            case 10: case 11: same("ways " + i + " " + j, x.ways(i, j), m.ways(i, j)); break;
            case 12: same("splitCost " + i + " " + j + " " + h, x.splitCost(i, j, h), m.splitCost(i, j, h)); break;
            case 13: same("second " + i + " " + j, x.second(i, j), m.second(i, j)); break;
            default:
                int left = number(1, 23);
                int right = number(1, 23);
                same("broken", x.broken(what, i, h, left, right), m.broken(what, i, h, left, right));
                break;
        }
    }

    private void callOfTree(int which) {
        int d = number(0, 5);
        int e = number(0, 5);
        int k = note();
        int o = note();
        int what = number(0, 6);
        switch (which) {
            case 15: same("joinings", x.joinings(), m.joinings()); break;
            case 16: case 17: same("joining " + k + " " + what, x.joining(k, what), m.joining(k, what)); break;
            case 18: same("breaksOf " + what, x.breaksOf(what), m.breaksOf(what)); break;
            case 19: same("deepest", x.deepest(), m.deepest()); break;
            case 20: same("level " + d, x.level(d), m.level(d)); break;
            case 21: same("levelNote " + d + " " + k, x.levelNote(d, k, what), m.levelNote(d, k, what)); break;
            case 22: same("path " + d, x.path(d), m.path(d)); break;
            case 23: same("reach " + k + " " + what, x.reach(k, what), m.reach(k, what)); break;
            case 24: same("climax " + d, x.climax(d), m.climax(d)); break;
            case 25: same("widest " + d, x.widest(d), m.widest(d)); break;
            case 26: same("echo " + d + " " + e, x.echo(d, e), m.echo(d, e)); break;
            case 27: same("over " + k + " " + o, x.over(k, o), m.over(k, o)); break;
            case 28: same("under " + k, x.under(k), m.under(k)); break;
            default: same("bare " + k, bare(x, k), bare(m, k)); break;
        }
    }

    private void callOfRest(int which) {
        int k = note();
        int o = note();
        int n = number(1, 1 + Math.max(0, notes / 2));
        int rule = number(0, 5);
        boolean slow = oneIn(slowOneIn);
        switch (which) {
            case 30:
                if (slow) {
                    boolean upper = oneIn(2);
                    same("firm " + rule + " " + upper, x.firm(rule, upper), m.firm(rule, upper));
                }
                break;
            case 31:
                if (slow) {
                    same("sways " + rule + " " + k, x.sways(rule, k), m.sways(rule, k));
                }
                break;
            case 32:
                int w = number(0, 99);
                same("swayed " + rule + " " + w, x.swayed(rule, w), m.swayed(rule, w));
                break;
            case 33: same("twins " + k + " " + o + " " + n, x.twins(k, o, n), m.twins(k, o, n)); break;
            case 34: same("twin " + n, x.twin(n - 1), m.twin(n - 1)); break;
            case 35: same("alike " + k + " " + o + " " + n, x.alike(k, o, n), m.alike(k, o, n)); break;
            case 36: same("keep", x.keep(), m.keep()); break;
            case 37: same("unlike " + rule, x.unlike(rule), m.unlike(rule)); break;
            case 38: same("keptBreaks", x.keptBreaks(), m.keptBreaks()); break;
            case 44: same("size " + rule, x.size(rule), m.size(rule)); break;
            case 45: feed("note rule long", 0); break;
            default: act(which, k, rule); break;
        }
    }

    private void act(int which, int k, int rule) {
        int v = number(0, oneIn(2) ? 99 : 8);
        switch (which) {
            case 39: same("pitch " + k + " " + v, x.pitch(k, v), m.pitch(k, v)); break;
            case 40: same("last " + k + " " + v, x.last(k, v), m.last(k, v)); break;
            case 41: same("weigh " + rule + " " + v, x.weigh(rule, v), m.weigh(rule, v)); break;
            case 42: same("key " + v, x.key(v), m.key(v)); break;
            default:
                int by = number(-9, 9);
                if (oneIn(2)) {
                    same("move " + by, x.move(by), m.move(by));
                } else {
                    for (int times = oneIn(8) ? 12 : 1; times > 0; times--) {
                        same("undo", x.undo() ? 1 : 0, m.undo() ? 1 : 0);
                    }
                }
                break;
        }
    }

    private void run() {
        for (int c = 0; c < 10; c++) {
            step();
        }
        newPiece();
        while (calls + CALLS_OF_STEP <= CALLS_OF_OBJECT) {
            if (oneIn(notes < 1 ? 4 : 60) && calls + CALLS_OF_PIECE + CALLS_OF_STEP <= CALLS_OF_OBJECT) {
                newPiece();
            }
            step();
        }
    }

    public static void main(String[] args) {
        for (int seed = 0; seed < 1500; seed++) {
            new RandomRunsTest(seed, 9, 2).run();
        }
        for (int seed = 2000; seed < 2140; seed++) {
            new RandomRunsTest(seed, 24, 12).run();
        }
        Check.end("RandomRunsTest");
    }
}
