/** Promises 30 to 32: THE TREE, were a RULE of another WEIGHT. */
public final class WeightsTest {
    // HEAD 0 breaks long by 2, HEAD 1 breaks strong by 3.
    private static final String TWO =
            "piece bar 4 beat 2 key 0;note 60 long 1;note 60 long 3;rule strong 2;rule long 5";
    private static final String FOUR =
            "piece bar 1 beat 1 key 0;note 60 long 4;note 60 long 1;note 60 long 1;note 60 long 1;rule long 1";

    private static void firm() {
        HeadTrees x = Check.of(TWO);
        Check.due("head", x.head(0, 1), 1);
        Check.granted(x, "firm(0, true)", x.firm(0, true), 3);
        Check.granted(x, "firm(0, false)", x.firm(0, false), 0);
        Check.granted(x, "firm(1, true)", x.firm(1, true), 99);
        Check.granted(x, "firm(1, false)", x.firm(1, false), 4);
        Check.granted(x, "firm(5, true)", x.firm(5, true), 99);
        Check.granted(x, "firm(5, false)", x.firm(5, false), 0);
        x.weigh(0, 50);
        Check.due("head", x.head(0, 1), 0);
        Check.granted(x, "firm(0, false)", x.firm(0, false), 4);
        Check.granted(x, "firm(0, true)", x.firm(0, true), 99);
        Check.granted(x, "firm(1, true)", x.firm(1, true), 75);
        Check.granted(x, "firm(1, false)", x.firm(1, false), 0);
        Check.granted(x, "firm(5, true)", x.firm(5, true), 99);
        x.weigh(5, 30);
        Check.granted(x, "firm(5, true), 0 is the lesser HEAD", x.firm(5, true), 99);
        x.weigh(1, 60);
        Check.granted(x, "firm(5, true)", x.firm(5, true), 30);
        Check.granted(x, "firm(5, false)", x.firm(5, false), 0);
    }

    /** By even of 1 THE TREE has another SPLIT, but the same HEAD. */
    private static void firmSplits() {
        HeadTrees x = Check.of(FOUR);
        Check.due("split", x.split(0, 3), 0);
        Check.granted(x, "firm(4, true)", x.firm(4, true), 0);
        Check.granted(x, "firm(4, false)", x.firm(4, false), 0);
        Check.due("sways(4, 0)", x.sways(4, 0), 0);
        x.weigh(4, 7);
        Check.due("split", x.split(0, 3), 1);
        Check.granted(x, "firm(4, false)", x.firm(4, false), 1);
        Check.granted(x, "firm(4, true)", x.firm(4, true), 99);
    }

    private static void sways() {
        HeadTrees x = Check.of(TWO);
        Check.granted(x, "sways(0, 0)", x.sways(0, 0), 4);
        Check.granted(x, "sways(0, 1)", x.sways(0, 1), 0);
        Check.granted(x, "sways(1, 0)", x.sways(1, 0), 0);
        Check.granted(x, "sways(1, 1)", x.sways(1, 1), 4);
        Check.granted(x, "sways(5, 0)", x.sways(5, 0), -2);
        Check.granted(x, "sways(2, 0)", x.sways(2, 0), -2);
        x.weigh(0, 99);
        x.weigh(1, 99);
        Check.granted(x, "sways(5, 1)", x.sways(5, 1), -2);
        x.last(1, 4);
        Check.granted(x, "sways(5, 1), one beyond a tie", x.sways(5, 1), 1);
        x.weigh(0, 50);
        Check.granted(x, "sways(1, 1)", x.sways(1, 1), 51);
        Check.granted(x, "sways(1, 0)", x.sways(1, 0), 0);
        Check.due("the WEIGHTS stay", x.weight(1), 99);
        Check.due("no ACT", x.size(1), 4);
    }

    private static void swayed() {
        HeadTrees x = Check.of(TWO);
        Check.granted(x, "swayed(0, 0)", x.swayed(0, 0), 0);
        Check.granted(x, "swayed(0, 2)", x.swayed(0, 2), 6);
        Check.granted(x, "swayed(0, 3)", x.swayed(0, 3), 9);
        Check.granted(x, "swayed(0, 4)", x.swayed(0, 4), 10);
        Check.granted(x, "swayed(0, 99)", x.swayed(0, 99), 10);
        Check.granted(x, "swayed(1, 1)", x.swayed(1, 1), 2);
        Check.granted(x, "swayed(1, 99)", x.swayed(1, 99), 6);
        Check.due("breaks stay", x.breaks(0, 1), 6);
        x.weigh(1, 1);
        Check.granted(x, "swayed(0, 99) by another WEIGHT", x.swayed(0, 99), 2);
        x.undo();
        Check.granted(x, "swayed(0, 99) again", x.swayed(0, 99), 10);
        x.last(1, 2);
        Check.granted(x, "swayed(0, 99) by another LONG", x.swayed(0, 99), 5);
        x = Check.of(TWO + ";rule step 3");
        Check.granted(x, "swayed(0, 0)", x.swayed(0, 0), 0);
        x.pitch(0, 70);
        Check.granted(x, "swayed(0, 0) behind an ACT", x.swayed(0, 0), 24);
        x.undo();
        Check.granted(x, "sways(0, 0)", x.sways(0, 0), 4);
        for (int v = 0; v < 100; v++) {
            Check.granted(x, "swayed behind sways " + v, x.swayed(0, v), Math.min(3 * v, 10));
        }
    }

    private static void wrong() {
        HeadTrees x = new HeadTrees();
        Check.refused(x, "firm without a PIECE", x.firm(0, true), 1);
        Check.refused(x, "sways without a PIECE", x.sways(0, 0), 1);
        Check.refused(x, "swayed without a PIECE", x.swayed(0, 100), 1);
        Check.read(x, TWO);
        for (int rule : new int[] {-1, 6, Integer.MAX_VALUE, Integer.MIN_VALUE}) {
            Check.refused(x, "firm " + rule, x.firm(rule, false), 1);
            Check.refused(x, "sways " + rule, x.sways(rule, 0), 1);
            Check.refused(x, "swayed " + rule, x.swayed(rule, 100), 1);
        }
        Check.refused(x, "sways(0, 2)", x.sways(0, 2), 1);
        Check.refused(x, "sways(0, -1)", x.sways(0, -1), 1);
        Check.refused(x, "swayed(0, 100)", x.swayed(0, 100), 2);
        Check.refused(x, "swayed(0, -1)", x.swayed(0, -1), 2);
    }

    private static void oneNote() {
        HeadTrees x = Check.of("piece bar 4 beat 2 key 0;note 60 long 1;rule even 50");
        for (int rule = 0; rule < 6; rule++) {
            Check.granted(x, "firm up " + rule, x.firm(rule, true), 99);
            Check.granted(x, "firm down " + rule, x.firm(rule, false), 0);
            Check.granted(x, "sways " + rule, x.sways(rule, 0), 0);
            Check.granted(x, "swayed " + rule, x.swayed(rule, 99), 0);
        }
    }

    public static void main(String[] args) {
        firm();
        firmSplits();
        sways();
        swayed();
        wrong();
        oneNote();
        Check.end("WeightsTest");
    }
}
