import com.sun.management.ThreadMXBean;
import java.lang.management.ManagementFactory;
import java.util.NoSuchElementException;

/**
 * All calls of one run live in one room that is never swept: runs of the dearest calls may make
 * only what an object makes once. And no argument makes a call throw but bare.
 */
public final class RoomTest {
    private static final ThreadMXBean BEAN = (ThreadMXBean) ManagementFactory.getThreadMXBean();
    private static final int[] ODD = {
        Integer.MIN_VALUE, -100, -1, 0, 1, 2, 5, 6, 23, 24, 64, 99, 100, Integer.MAX_VALUE};

    private static long made() {
        return BEAN.getThreadAllocatedBytes(Thread.currentThread().getId());
    }

    private static String text() {
        StringBuilder text = new StringBuilder("piece bar 8 beat 2 key 3");
        for (int k = 0; k < 24; k++) {
            text.append(";note ").append(k * 37 % 100).append(" long ").append(1 + k * 29 % 64);
        }
        text.append(";rule strong 7;rule long 3;rule stable 9;rule step 2;rule even 4;rule close 50");
        return text.toString();
    }

    /** 500 calls or so, each of which has to work out all anew. */
    private static HeadTrees run(String text) {
        HeadTrees x = new HeadTrees();
        Check.feedAll(x, text);
        x.piece(text.length());
        for (int turn = 0; turn < 32; turn++) {
            x.pitch(turn % 24, turn * 13 % 100);
            x.firm(turn % 6, turn % 2 == 0);
            x.sways(turn % 6, turn % 24);
            x.swayed(turn % 6, turn);
            x.ways(0, 23);
            x.alike(0, 4, 8);
            x.keep();
            x.unlike(2);
            x.echo(1, 3);
            x.twin(0);
            x.levelNote(2, 1, 2);
            x.move(0);
            x.undo();
            x.last(turn % 24, 1 + turn);
            x.breaks(0, 23);
        }
        return x;
    }

    private static void room() {
        String text = text();
        Check.due("the text is fair", Check.read(new HeadTrees(), text), 24);
        run(text);
        long from = made();
        run(text);
        long run = made() - from;
        System.out.println("a run of dear calls makes " + run + " bytes");
        Check.due("a run of dear calls makes too much", run > 200_000, false);
        from = made();
        for (int t = 0; t < 100; t++) {
            new HeadTrees();
        }
        long object = (made() - from) / 100;
        System.out.println("a new object makes " + object + " bytes");
        Check.due("a new object makes too much", object > 20_000, false);
    }

    private static void bare(HeadTrees x, int i) {
        try {
            x.bare(i);
        } catch (NoSuchElementException e) {
            Check.due("bare throws it itself", e.getStackTrace()[0].getMethodName().equals("bare"), true);
        }
    }

    private static void oddArguments(HeadTrees x, int a, int b) {
        x.about(a);
        x.note(a, b);
        x.weight(a);
        x.breaks(a, b);
        x.head(a, b);
        x.split(a, b);
        x.ways(a, b);
        x.second(a, b);
        x.joining(a, b);
        x.breaksOf(a);
        x.level(a);
        x.path(a);
        x.reach(a, b);
        x.climax(a);
        x.widest(a);
        x.echo(a, b);
        x.over(a, b);
        x.under(a);
        x.firm(a, b > 0);
        x.sways(a, b);
        x.swayed(a, b);
        x.twin(a);
        x.unlike(a);
        x.pitch(a, b);
        x.last(a, b);
        x.weigh(a, b);
        x.key(a);
        x.move(a);
        x.size(a);
        bare(x, a);
        x.piece(a);
        x.feed(a, b, a, b, a);
        for (int c : ODD) {
            x.breaksBy(a, b, c);
            x.splitCost(a, b, c);
            x.levelNote(a, b, c);
            x.twins(a, b, c);
            x.alike(a, b, c);
            x.broken(a, b, c, 1, 23);
            x.broken(0, 0, 1, a, c);
        }
    }

    public static void main(String[] args) {
        room();
        for (int a : ODD) {
            for (int b : ODD) {
                oddArguments(new HeadTrees(), a, b);
                HeadTrees x = Check.of(text());
                oddArguments(x, a, b);
                x = Check.of("piece bar 1 beat 1 key 0;note 5 long 1");
                oddArguments(x, a, b);
            }
        }
        Check.due("no call threw", true, true);
        Check.end("RoomTest");
    }
}
