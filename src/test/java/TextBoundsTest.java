/** The text of a PIECE: each sentence of terms I, and of promises 1 to 5, that names a boundary. */
public final class TextBoundsTest {
    private static final String HEAD = "piece bar 4 beat 1 key 0";
    private static final String NOTE = ";note 1 long 1";
    private static final String[] NAMES = {"strong", "long", "stable", "step", "even", "close"};

    private static void fair(String text, int notes) {
        HeadTrees x = new HeadTrees();
        Check.granted(x, "piece of '" + text + "'", Check.read(x, text), notes);
        Check.due("fault() of '" + text + "'", x.fault(), 0);
    }

    private static void faulty(String text, int fault, int place) {
        HeadTrees x = new HeadTrees();
        Check.refused(x, "piece of '" + text + "'", Check.read(x, text), 4);
        Check.due("fault() of '" + text + "'", x.fault(), fault);
        Check.due("where() of '" + text + "'", x.where(), place);
    }

    /** What was read, and then told by about or, of the first NOTE, by note. */
    private static void told(String text, int about, int note, int want) {
        HeadTrees x = Check.of(text);
        Check.due("of '" + text + "'", about >= 0 ? x.about(about) : x.note(0, note), want);
    }

    private static String many(int notes) {
        return HEAD + NOTE.repeat(notes);
    }

    private static String padded(String text, int length, String tail) {
        return text + " ".repeat(length - text.length() - tail.length()) + tail;
    }

    // ---- terms I

    private static void tokens() {
        Check.sentence("I: THE TAPE has 700 bytes");
        fair(padded(HEAD + NOTE, 700, NOTE), 2);
        faulty(padded(HEAD + NOTE, 700, "x"), 1, 699);
        faulty(padded(HEAD + NOTE, 700, ";"), 1, 700);
        HeadTrees full = new HeadTrees();
        Check.feedAll(full, padded(HEAD + NOTE, 720, ""));
        Check.due("size(0)", full.size(0), 700);
        Check.refused(full, "piece(701)", full.piece(701), 2);
        Check.sentence("I: blanks, 32, part TOKENS and mean nothing else");
        fair("piece bar4beat1key0;note1long1;rule even9", 1);
        fair("   piece   bar   4   beat   1   key   0   ;   note   1   long   1   ", 1);
        faulty("pie ce bar 4 beat 1 key 0" + NOTE, 1, 0);
        faulty("piecebar 4 beat 1 key 0" + NOTE, 1, 0);
        faulty("piece bar 1 2 beat 1 key 0" + NOTE, 1, 12);
        for (int other : new int[] {0, 9, 10, 13, 31, 33, 95, 127, 128, 160, 255}) {
            faulty("piece" + (char) other + "bar 4 beat 1 key 0" + NOTE, 1, 5);
        }
        Check.sentence("I: WORDS of 1 to 6 small letters that stand together");
        fair(HEAD + NOTE + ";rule strong 1", 1);
        fair(HEAD + NOTE + ";rule stable 1", 1);
        faulty(HEAD + NOTE + ";rule strongs 1", 1, 44);
        faulty(HEAD + NOTE + ";rule sstrong 1", 1, 44);
        faulty(HEAD + NOTE + ";rule strongstrong 1", 1, 44);
        faulty(HEAD + NOTE + ";rule s trong 1", 1, 44);
        faulty(HEAD + NOTE + ";rule Strong 1", 1, 44);
        faulty(HEAD + NOTE + ";rule stronG 1", 1, 44);
        for (char beside : new char[] {'`', '{', 'A', 'Z', '@', '['}) {
            faulty(HEAD + NOTE + ";rule even" + beside, 1, 48);
            faulty(HEAD + NOTE + ";rule " + beside + "even", 1, 44);
        }
        Check.sentence("I: WHOLES of 1 or 2 digits that do");
        told("piece bar 9 beat 9 key 0" + NOTE, 0, 0, 9);
        told("piece bar 10 beat 9 key 0" + NOTE, 0, 0, 10);
        told("piece bar 09 beat 9 key 00" + NOTE, 0, 0, 9);
        told(HEAD + ";note 00 long 01", -1, 0, 0);
        faulty("piece bar 009 beat 9 key 0" + NOTE, 1, 10);
        faulty("piece bar 100 beat 9 key 0" + NOTE, 1, 10);
        faulty("piece bar 4 beat 1 key 000" + NOTE, 1, 23);
        faulty(HEAD + ";note 1 long 4294967297", 1, 37);
        for (char beside : new char[] {'/', ':', '-', '+', '.'}) {
            faulty("piece bar 1" + beside + " beat 1 key 0" + NOTE, 1, 11);
            faulty("piece bar " + beside + "1 beat 1 key 0" + NOTE, 1, 10);
        }
        Check.sentence("I: single ones of ;");
        faulty(HEAD + ";" + NOTE, 1, 25);
        faulty(HEAD + NOTE + ";;note 1 long 1", 1, 39);
        faulty(HEAD + NOTE + "; ;note 1 long 1", 1, 40);
        faulty(HEAD + NOTE + ",note 1 long 1", 1, 38);
        Check.sentence("I: LINE {; LINE}");
        fair(HEAD + NOTE, 1);
        faulty(";" + HEAD + NOTE, 1, 0);
        faulty(HEAD + NOTE + ";", 1, 39);
        faulty(HEAD + NOTE + " note 1 long 1", 1, 39);
        faulty(HEAD + NOTE + " rule even 1", 1, 39);
    }

    private static void lines() {
        Check.sentence("I: BAR, 1 .. 64");
        told("piece bar 1 beat 1 key 0" + NOTE, 0, 0, 1);
        told("piece bar 64 beat 1 key 0" + NOTE, 0, 0, 64);
        faulty("piece bar 0 beat 1 key 0" + NOTE, 2, 10);
        faulty("piece bar 00 beat 1 key 0" + NOTE, 2, 10);
        faulty("piece bar 65 beat 1 key 0" + NOTE, 2, 10);
        faulty("piece bar 99 beat 1 key 0" + NOTE, 2, 10);
        Check.sentence("I: BEAT, 1 .. BAR");
        told("piece bar 7 beat 1 key 0" + NOTE, 1, 0, 1);
        told("piece bar 7 beat 7 key 0" + NOTE, 1, 0, 7);
        told("piece bar 64 beat 64 key 0" + NOTE, 1, 0, 64);
        told("piece bar 1 beat 1 key 0" + NOTE, 1, 0, 1);
        faulty("piece bar 7 beat 0 key 0" + NOTE, 2, 17);
        faulty("piece bar 7 beat 8 key 0" + NOTE, 2, 17);
        faulty("piece bar 1 beat 2 key 0" + NOTE, 2, 17);
        faulty("piece bar 64 beat 65 key 0" + NOTE, 2, 18);
        Check.sentence("I: KEY, 0 .. 11");
        told("piece bar 4 beat 1 key 0" + NOTE, 2, 0, 0);
        told("piece bar 4 beat 1 key 11" + NOTE, 2, 0, 11);
        faulty("piece bar 4 beat 1 key 12" + NOTE, 2, 23);
        faulty("piece bar 4 beat 1 key 99" + NOTE, 2, 23);
        Check.sentence("I: ahead of all others");
        fair(HEAD + ";rule even 1;note 1 long 1;rule long 1;note 1 long 1", 2);
        faulty("rule even 1;" + HEAD + NOTE, 5, 0);
        faulty("note 1 long 1;" + HEAD + NOTE, 5, 0);
        faulty(HEAD + NOTE + ";" + HEAD, 3, 39);
        Check.sentence("I: PITCH, 0 .. 99");
        told(HEAD + ";note 0 long 1", -1, 0, 0);
        told(HEAD + ";note 99 long 1", -1, 0, 99);
        faulty(HEAD + ";note 100 long 1", 1, 30);
        Check.sentence("I: LONG, 1 .. 64");
        told(HEAD + ";note 1 long 1", -1, 1, 1);
        told(HEAD + ";note 1 long 64", -1, 1, 64);
        faulty(HEAD + ";note 1 long 0", 2, 37);
        faulty(HEAD + ";note 1 long 65", 2, 37);
        faulty(HEAD + ";note 1 long 99", 2, 37);
        Check.sentence("I: (a NOTE, numbered from 0: ..; up to 24)");
        fair(many(1), 1);
        fair(many(24), 24);
        faulty(many(25), 4, 24 + 24 * 14 + 1);
        HeadTrees x = Check.of(HEAD + ";note 7 long 1" + NOTE.repeat(22) + ";note 9 long 1");
        Check.due("the first", x.note(0, 0), 7);
        Check.due("the 24th", x.note(23, 0), 9);
        Check.refused(x, "no 25th", x.note(24, 0), 1);
    }

    private static void rules() {
        Check.sentence("I: a RULE: strong, long, stable, step, even, or close");
        for (int rule = 0; rule < 6; rule++) {
            HeadTrees x = Check.of(HEAD + NOTE + ";rule " + NAMES[rule] + " " + (rule + 7));
            for (int other = 0; other < 6; other++) {
                Check.due(NAMES[rule] + ": weight " + other, x.weight(other), other == rule ? rule + 7 : 0);
            }
        }
        for (String other : new String[] {"note", "bar", "key", "strng", "closer", "ste", "evens", "7", ";"}) {
            faulty(HEAD + NOTE + ";rule " + other + " 1", 1, 44);
        }
        Check.sentence("I: its WEIGHT, 0 .. 99");
        HeadTrees x = Check.of(HEAD + NOTE + ";rule strong 0;rule close 99");
        Check.due("strong", x.weight(0), 0);
        Check.due("close", x.weight(5), 99);
        faulty(HEAD + NOTE + ";rule strong 100", 1, 51);
        Check.sentence("I: each once");
        for (String name : NAMES) {
            int place = 38 + 8 + name.length() + 6;
            faulty(HEAD + NOTE + ";rule " + name + " 1;rule " + name + " 2", 3, place);
            faulty(HEAD + NOTE + ";rule " + name + " 0;rule " + name + " 0", 3, place);
        }
        fair(HEAD + NOTE + ";rule strong 1;rule long 1;rule stable 1;rule step 1;rule even 1;rule close 1", 1);
        Check.sentence("I: those not told: 0");
        x = new HeadTrees();
        String all = HEAD + NOTE + ";rule strong 1;rule long 2;rule stable 3;rule step 4;rule even 5;rule close 6";
        // However many PIECES there were, and also texts with a FAULT behind their RULES.
        for (int turn = 0; turn < 4; turn++) {
            Check.read(x, turn < 2 ? all : all + ";");
            Check.read(x, turn % 2 == 0 ? all : all + ";");
            Check.read(x, HEAD + NOTE + ";rule stable 9");
            for (int rule = 0; rule < 6; rule++) {
                Check.due("weight " + rule, x.weight(rule), rule == 2 ? 9 : 0);
            }
        }
    }

    private static void orderOfFaults() {
        Check.sentence("I: FAULTS, the first that is met from the left");
        faulty("piece bar 0 beat 0 key 12", 2, 10);
        faulty("piece bar 0 !", 2, 10);
        faulty("piece ! bar 0", 1, 6);
        faulty("piece 0", 1, 6);
        faulty("piece bar 4 beat 5;", 2, 17);
        faulty("note 100 long 0", 5, 0);
        faulty("rule odd 100", 5, 0);
        faulty(HEAD + ";rule even 1;rule even 100", 3, 42);
        faulty(HEAD + ";rule even 100;rule even 1", 1, 35);
        faulty(HEAD + ";piece bar 0", 3, 25);
        faulty(HEAD + ";note 1 long 0;piece", 2, 37);
        faulty(many(24) + ";note 100 long 0", 4, 361);
        faulty(many(23) + ";note 1 long 0;note 1 long 1", 2, 24 + 23 * 14 + 13);
        faulty(many(24) + ";piece;note 1 long 1", 3, 361);
        faulty(many(24) + "!;note 1 long 1", 1, 360);
        Check.sentence("I: of one place the least number");
        faulty("", 1, 0);
        faulty("    ", 1, 4);
        faulty("piece", 1, 5);
        faulty("piece bar 4 beat 1 key", 1, 22);
        faulty(HEAD + ";", 1, 25);
        faulty(HEAD + ";rule even", 1, 34);
        faulty(HEAD + ";note 1 long", 1, 36);
    }

    private static void form() {
        Check.sentence("I: 1 FORM: the first byte that begins no TOKEN");
        for (int other : new int[] {0, 1, 9, 31, 33, 47, 58, 60, 64, 65, 90, 91, 96, 123, 127, 128, 160, 176, 187, 200, 225,
            240, 255}) {
            faulty((char) other + HEAD + NOTE, 1, 0);
            faulty(HEAD + (char) other + NOTE, 1, 24);
            faulty(HEAD + NOTE + (char) other, 1, 38);
            faulty(HEAD + NOTE + ";" + (char) other, 1, 39);
        }
        Check.sentence("I: or TOKEN with which no PIECE goes on");
        wrongTokens();
        Check.sentence("I: (the end: its place)");
        cutTexts();
        faulty("piece  ", 1, 7);
        faulty(HEAD + NOTE + ";  ", 1, 41);
    }

    private static final String[] TOKENS = {"piece", "bar", "4", "beat", "1", "key", "0", ";", "note", "1",
        "long", "1", ";", "rule", "even", "3"};

    private static boolean goesOn(int t, String token) {
        switch (t) {
            case 7:
            case 12:
                return token.equals(";");
            case 0:
            case 8:
            case 13:
                return token.equals("piece") || token.equals("note") || token.equals("rule");
            case 2:
            case 4:
            case 6:
            case 9:
            case 11:
            case 15:
                return token.equals("7");
            case 14:
                return token.equals("long") || token.equals("even");
            default:
                return token.equals(TOKENS[t]);
        }
    }

    private static String upTo(int t) {
        StringBuilder text = new StringBuilder();
        for (int k = 0; k < t; k++) {
            text.append(TOKENS[k]).append(' ');
        }
        return text.toString();
    }

    private static void wrongTokens() {
        String[] others = {"piece", "bar", "beat", "key", "note", "long", "rule", "even", "x", "7", ";"};
        for (int t = 0; t < TOKENS.length; t++) {
            for (String other : others) {
                if (!goesOn(t, other)) {
                    faulty(upTo(t) + other, 1, upTo(t).length());
                }
            }
        }
        for (String other : others) {
            if (!other.equals(";")) {
                faulty(upTo(TOKENS.length) + other, 1, upTo(TOKENS.length).length());
            }
        }
    }

    private static void cutTexts() {
        for (int t = 0; t < TOKENS.length; t++) {
            if (t != 7 && t != 12) {
                faulty(upTo(t).trim(), 1, upTo(t).trim().length());
            }
        }
        fair(upTo(12).trim(), 1);
        fair(upTo(TOKENS.length).trim(), 1);
    }

    private static void otherFaults() {
        Check.sentence("I: 2 a WHOLE out of bounds; at it");
        faulty("piece  bar  0 beat 1 key 0" + NOTE, 2, 12);
        faulty("piece bar65beat 1 key 0" + NOTE, 2, 9);
        faulty("piece bar 4 beat  5 key 0" + NOTE, 2, 18);
        faulty("piece bar 4 beat 1 key  12" + NOTE, 2, 24);
        faulty(HEAD + ";note 1 long  65", 2, 38);
        Check.sentence("I: 3 AGAIN: a RULE told again, at its NAME");
        faulty(HEAD + ";rule even 1" + NOTE + ";rule even 1", 3, 56);
        faulty(HEAD + ";rule even 1;rule   even", 3, 44);
        faulty(HEAD + ";rule even 1;rule even x", 3, 42);
        Check.sentence("I: a second piece, at that WORD");
        faulty(HEAD + ";piece", 3, 25);
        faulty(HEAD + ";  " + HEAD, 3, 27);
        faulty(HEAD + NOTE + ";piece x", 3, 39);
        Check.sentence("I: 4 MANY: a 25th NOTE, at its WORD");
        fair(many(24) + ";rule even 1", 24);
        faulty(many(24) + ";note", 4, 361);
        faulty(many(24) + ";  note 1 long 1", 4, 363);
        faulty(many(24) + ";rule even 1;note 1 long 1", 4, 373);
        Check.sentence("I: 5 LACKS: any LINE ahead of the piece, at its WORD");
        faulty("note 1 long 1;" + HEAD, 5, 0);
        faulty("rule even 1;" + HEAD + NOTE, 5, 0);
        faulty("  note", 5, 2);
        faulty(" rule", 5, 1);
        Check.sentence("I: at the end: no NOTE");
        faulty(HEAD, 5, 24);
        faulty(HEAD + "   ", 5, 27);
        faulty(HEAD + ";rule even 1;rule close 9", 5, 49);
        fair(HEAD + ";rule even 1" + NOTE, 1);
    }

    // ---- promises 1 to 5

    private static void newObject() {
        HeadTrees x = new HeadTrees();
        Check.sentence("1: No PIECE");
        Check.due("trouble()", x.trouble(), 0);
        Check.due("fault()", x.fault(), 0);
        Check.due("where()", x.where(), -1);
        Check.due("size(0)", x.size(0), 0);
        Check.due("size(1)", x.size(1), 0);
        Check.due("size(2)", x.size(2), 0);
        Check.refused(x, "about(3)", x.about(3), 1);
        Check.throwsNone("bare(0)", x, 0);
    }

    private static int feedBlanks(HeadTrees x) {
        return x.feed(0x20202020, 0x20202020, 0x20202020, 0x20202020, 0x20202020);
    }

    private static void feed() {
        Check.sentence("2: Twenty bytes come behind THE TAPE, of each number the highest first");
        HeadTrees x = new HeadTrees();
        x.feed(0x70696563, 0x65206261, 0x72203132, 0x20626561, 0x74203334);
        Check.refused(x, "'piece bar 12 beat 34'", x.piece(20), 4);
        Check.due("where()", x.where(), 18);
        x.feed(0x80000000, 0x20202020, 0x20202020, 0x20202020, 0x202020ff);
        x.piece(20);
        Check.due("a number below 0 begins with a high byte", x.where(), 0);
        x.feed(0x20202020, 0x20202020, 0x20202020, 0x20202020, 0x202020ff);
        x.piece(20);
        Check.due("the twentieth byte", x.where(), 19);
        Check.sentence("2: how many it has");
        for (int fed = 20; fed <= 700; fed += 20) {
            Check.due("feed()", feedBlanks(x), fed);
            Check.due("size(0)", x.size(0), fed);
        }
        Check.sentence("2: NONE, and none comes, if there would be more than 700");
        x = new HeadTrees();
        String text = padded(HEAD, 700, NOTE);
        Check.feedAll(x, text);
        Check.due("feed() beyond 700", x.feed(0, 0, 0, 0, 0), -1);
        Check.due("size(0)", x.size(0), 700);
        Check.due("feed() again", feedBlanks(x), -1);
        Check.granted(x, "piece(700)", x.piece(700), 1);
        Check.due("feed() once it is empty", feedBlanks(x), 20);
    }

    private static void piece() {
        Check.sentence("3: The first n bytes of THE TAPE");
        HeadTrees x = new HeadTrees();
        Check.feedAll(x, HEAD + ";note 1 long 23;rule");
        Check.granted(x, "piece(38)", x.piece(38), 1);
        Check.due("LONG", x.note(0, 1), 2);
        Check.feedAll(x, HEAD + ";note 1 long 23;rule");
        Check.granted(x, "piece(39)", x.piece(39), 1);
        Check.due("LONG", x.note(0, 1), 23);
        Check.feedAll(x, HEAD + ";note 1 long 23;rule");
        Check.refused(x, "piece(40)", x.piece(40), 4);
        Check.refused(x, "piece(0)", x.piece(0), 4);
        Check.due("where() of none", x.where(), 0);
        Check.sentence("3: (it is empty then)");
        Check.feedAll(x, HEAD + NOTE + "  ;;");
        x.piece(38);
        Check.due("size(0)", x.size(0), 0);
        Check.refused(x, "piece(1)", x.piece(1), 2);
        Check.feedAll(x, "x");
        x.piece(1);
        Check.due("size(0) behind a FAULT", x.size(0), 0);
        Check.granted(x, "nothing is left of it", Check.read(x, HEAD + NOTE), 1);
        Check.sentence("3: are the PIECE from now on (nothing to undo, no ANALYSIS kept)");
        x.pitch(0, 5);
        x.keep();
        Check.granted(x, "piece()", Check.read(x, "piece bar 9 beat 2 key 3" + NOTE + NOTE), 2);
        Check.due("size(1)", x.size(1), 0);
        Check.due("size(2)", x.size(2), 0);
        Check.due("undo()", x.undo(), false);
        Check.refused(x, "unlike(0)", x.unlike(0), 1);
        Check.due("BAR", x.about(0), 9);
        Check.due("NOTES", x.about(3), 2);
        Check.due("PITCH", x.note(0, 0), 1);
        Check.sentence("3: how many NOTES");
        Check.due("of one", Check.read(x, many(1)), 1);
        Check.due("of 24", Check.read(x, many(24)), 24);
        Check.due("of 2", Check.read(x, many(2)), 2);
    }

    private static void pieceRefused() {
        Check.sentence("3: NONE: 2 (THE TAPE stays)");
        HeadTrees x = Check.of(HEAD + NOTE + NOTE);
        x.pitch(0, 5);
        x.keep();
        Check.feedAll(x, HEAD + NOTE);
        for (int n : new int[] {-1, 41, 700, 701, Integer.MIN_VALUE, Integer.MAX_VALUE}) {
            Check.refused(x, "piece " + n, x.piece(n), 2);
            Check.due("size(0)", x.size(0), 40);
        }
        Check.due("size(1)", x.size(1), 1);
        Check.due("size(2)", x.size(2), 1);
        Check.due("NOTES", x.about(3), 2);
        Check.granted(x, "piece(40)", x.piece(40), 1);
        Check.sentence("3: NONE: 4 (the PIECE stays)");
        x = Check.of("piece bar 9 beat 2 key 3;note 44 long 5;rule even 6");
        x.pitch(0, 5);
        x.keep();
        Check.refused(x, "piece of many a LINE", Check.read(x, HEAD + NOTE + NOTE + ";rule long 7;x"), 4);
        int[] about = {9, 2, 3, 1, 5, 1};
        for (int what = 0; what < 6; what++) {
            Check.due("about " + what, x.about(what), about[what]);
        }
        Check.due("PITCH", x.note(0, 0), 5);
        Check.due("even", x.weight(4), 6);
        Check.due("long", x.weight(1), 0);
        Check.due("size(2)", x.size(2), 1);
        Check.due("undo()", x.undo(), true);
        Check.due("PITCH", x.note(0, 0), 44);
    }

    private static void fault() {
        Check.sentence("4: The FAULT of the latest piece() not refused by 2");
        HeadTrees x = new HeadTrees();
        String[] texts = {"x", "piece bar 0", HEAD + ";piece", many(25), HEAD};
        for (int fault = 1; fault <= 5; fault++) {
            Check.read(x, texts[fault - 1]);
            Check.due("fault()", x.fault(), fault);
            x.piece(1);
            Check.due("fault() behind 2", x.fault(), fault);
            x.about(0);
            x.undo();
            Check.due("fault() behind other calls", x.fault(), fault);
        }
        Check.sentence("4: 0 without one");
        Check.due("of a new object", new HeadTrees().fault(), 0);
        Check.read(x, HEAD + NOTE);
        Check.due("of a fair text", x.fault(), 0);
        x.piece(-1);
        Check.due("of a fair text, behind 2", x.fault(), 0);
        x = new HeadTrees();
        x.piece(1);
        Check.due("of none but one refused by 2", x.fault(), 0);
    }

    private static void where() {
        Check.sentence("5: Its place, if the latest call that may be refused was by 4");
        HeadTrees x = Check.of(HEAD + NOTE);
        Check.read(x, HEAD + NOTE + ";");
        Check.due("where()", x.where(), 39);
        feedBlanks(x);
        x.fault();
        x.size(0);
        x.size(9);
        x.bare(0);
        Check.throwsNone("bare(1)", x, 1);
        Check.due("trouble()", x.trouble(), 4);
        Check.due("where() behind calls that none refuses", x.where(), 39);
        Check.sentence("5: NONE else");
        Check.due("of a new object", new HeadTrees().where(), -1);
        x.about(0);
        Check.due("behind a call not refused", x.where(), -1);
        x.piece(20);
        Check.due("behind a FAULT", x.where(), 20);
        x.piece(20);
        Check.due("behind 2", x.where(), -1);
        Check.read(x, "x");
        x.note(9, 9);
        Check.due("behind 1", x.where(), -1);
        Check.read(x, "x");
        x.move(99);
        Check.due("behind 5", x.where(), -1);
        Check.read(x, "x");
        x.undo();
        Check.due("behind undo()", x.where(), -1);
        Check.read(x, "x");
        Check.read(x, HEAD + NOTE);
        Check.due("behind a fair text", x.where(), -1);
    }

    public static void main(String[] args) {
        tokens();
        lines();
        rules();
        orderOfFaults();
        form();
        otherFaults();
        newObject();
        feed();
        piece();
        pieceRefused();
        fault();
        where();
        Check.end("TextBoundsTest");
    }
}
