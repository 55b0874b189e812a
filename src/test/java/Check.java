import java.util.HashSet;
import java.util.NoSuchElementException;
import java.util.Set;

/** What the tests share: an answer beside the one that is due, and texts fed and read. */
final class Check {
    private static int right = 0;
    private static int wrong = 0;
    private static final Set<String> SENTENCES = new HashSet<>();
    private static String sentence = "";
    private static int answersBefore = 0;

    private Check() {
    }

    /** All answers up to the next sentence are looked at for the sake of this one. */
    static void sentence(String told) {
        endSentence();
        SENTENCES.add(told);
        sentence = told + " | ";
        answersBefore = right + wrong;
    }

    // A sentence that no answer is looked at for would pass whatever the class does.
    private static void endSentence() {
        if (!sentence.isEmpty() && right + wrong == answersBefore) {
            due("a test", 0, 1);
        }
        sentence = "";
    }

    static void due(String call, long got, long want) {
        if (got == want) {
            right++;
            return;
        }
        wrong++;
        // The first ones tell enough; a run that goes astray would print thousands.
        if (wrong <= 40) {
            System.out.println(sentence + call + " answered " + got + ", due is " + want);
        }
    }

    static void due(String call, boolean got, boolean want) {
        due(call, got ? 1 : 0, want ? 1 : 0);
    }

    /** A call that was just made is due to have been refused by that number. */
    static void refused(HeadTrees x, String call, long got, int number) {
        due(call, got, HeadTrees.NONE);
        due(call + ", trouble()", x.trouble(), number);
    }

    static void granted(HeadTrees x, String call, long got, long want) {
        due(call, got, want);
        due(call + ", trouble()", x.trouble(), 0);
    }

    static void throwsNone(String call, HeadTrees x, int i) {
        boolean thrown = false;
        try {
            x.bare(i);
        } catch (NoSuchElementException e) {
            thrown = true;
        }
        due(call + " throws", thrown, true);
    }

    static int number(String text, int from) {
        int number = 0;
        for (int t = from; t < from + 4; t++) {
            number = number << 8 | (t < text.length() ? text.charAt(t) : ' ');
        }
        return number;
    }

    static int feed(HeadTrees x, String text, int from) {
        return x.feed(number(text, from), number(text, from + 4), number(text, from + 8),
                number(text, from + 12), number(text, from + 16));
    }

    static void feedAll(HeadTrees x, String text) {
        for (int from = 0; from < text.length(); from += 20) {
            feed(x, text, from);
        }
    }

    static int read(HeadTrees x, String text) {
        feedAll(x, text);
        return x.piece(text.length());
    }

    static HeadTrees of(String text) {
        HeadTrees x = new HeadTrees();
        if (read(x, text) < 1) {
            due("a PIECE: " + text, x.fault(), 0);
        }
        return x;
    }

    static void end(String test) {
        endSentence();
        String told = SENTENCES.isEmpty() ? "" : SENTENCES.size() + " sentences, ";
        System.out.println(test + ": " + told + right + " answers as due, " + wrong + " not");
        if (wrong != 0) {
            System.exit(1);
        }
    }
}
