/** Other WEIGHTS: each sentence of promises 30 to 32 that names a boundary. */
public final class WeightsBoundsTest {
    // HEAD 0 breaks close, HEAD 1 strong, each by 1: HEAD 0 if close is not the heavier one.
    private static final String TWO = "piece bar 2 beat 1 key 0;note 60 long 1;note 60 long 1;rule strong 50;rule close 50";
    // By long of 0 NOTE 2 is HEAD by SPLIT 0, of 1 it is by SPLIT 1, of more NOTE 0 is HEAD.
    private static final String THREE = "piece bar 1 beat 1 key 0;note 60 long 3;note 60 long 2;note 60 long 1;"
            + "rule long 1;rule close 3";
    private static final String ONE = "piece bar 1 beat 1 key 0;note 60 long 3;rule long 1";

    private static void firmIs(HeadTrees x, int rule, int least, int greatest) {
        Check.granted(x, "firm(" + rule + ", false)", x.firm(rule, false), least);
        Check.granted(x, "firm(" + rule + ", true)", x.firm(rule, true), greatest);
    }

    private static void firm() {
        Check.sentence("30: The greatest WEIGHT of a RULE (upper), the least");
        HeadTrees x = Check.of(TWO);
        Check.due("HEAD of like ones", x.head(0, 1), 0);
        firmIs(x, 0, 50, 99);
        firmIs(x, 5, 0, 50);
        x.weigh(0, 49);
        Check.due("HEAD", x.head(0, 1), 1);
        firmIs(x, 0, 0, 49);
        firmIs(x, 5, 50, 99);
        x.weigh(0, 0);
        firmIs(x, 0, 0, 49);
        firmIs(x, 5, 1, 99);
        x.weigh(0, 99);
        firmIs(x, 0, 50, 99);
        firmIs(x, 5, 0, 99);
        x.weigh(5, 99);
        firmIs(x, 0, 99, 99);
        firmIs(x, 5, 0, 99);
        x.weigh(5, 0);
        firmIs(x, 0, 0, 99);
        Check.sentence("30: so that by it, and by all between it and the one that is");
        for (int rule = 0; rule < 6; rule++) {
            firmIs(Check.of(ONE), rule, 0, 99);
        }
        x = Check.of(THREE);
        firmIs(x, 1, 1, 1);
        Check.sentence("30: THE TREE has the same SPLITS and HEADS");
        x.weigh(1, 0);
        Check.due("HEAD by 0", x.head(0, 2), 2);
        Check.due("SPLIT by 0", x.split(0, 2), 0);
        firmIs(x, 1, 0, 0);
        x.weigh(1, 1);
        Check.due("HEAD by 1", x.head(0, 2), 2);
        Check.due("SPLIT by 1", x.split(0, 2), 1);
        x.weigh(1, 2);
        Check.due("HEAD by 2", x.head(0, 2), 0);
        firmIs(x, 1, 2, 99);
    }

    private static void sways() {
        Check.sentence("31: The least WEIGHT of a RULE (0 .. 99) by which a NOTE is HEAD of THE TREE");
        HeadTrees x = Check.of(TWO);
        Check.granted(x, "one that is", x.sways(0, 0), 50);
        Check.granted(x, "of 0", x.sways(0, 1), 0);
        Check.granted(x, "beyond a tie", x.sways(5, 1), 51);
        x.weigh(5, 99);
        Check.granted(x, "of 99", x.sways(0, 0), 99);
        x.weigh(5, 1);
        Check.granted(x, "of 1", x.sways(0, 0), 1);
        x.weigh(5, 0);
        Check.granted(x, "of 0, of like ones", x.sways(0, 0), 0);
        x = Check.of(THREE);
        Check.granted(x, "NOTE 0", x.sways(1, 0), 2);
        Check.granted(x, "NOTE 2", x.sways(1, 2), 0);
        for (int rule = 0; rule < 6; rule++) {
            Check.due("of one NOTE", Check.of(ONE).sways(rule, 0), 0);
        }
        Check.sentence("31: -2 by none");
        Check.granted(x, "NOTE 1", x.sways(1, 1), -2);
        x = Check.of(TWO);
        x.weigh(5, 99);
        x.weigh(1, 1);
        x.last(1, 2);
        Check.granted(x, "100 would be asked for", x.sways(0, 0), -2);
        x.weigh(5, 0);
        x.weigh(1, 0);
        Check.granted(x, "of like ones the other one", x.sways(0, 1), -2);
    }

    private static void swayed() {
        Check.sentence("32: BREAKS of THE TREE, were a RULE of that WEIGHT (0 .. 99)");
        HeadTrees x = Check.of(TWO);
        Check.granted(x, "by 0", x.swayed(0, 0), 0);
        Check.granted(x, "by 1", x.swayed(0, 1), 1);
        Check.granted(x, "by 49", x.swayed(0, 49), 49);
        Check.granted(x, "by 50", x.swayed(0, 50), 50);
        Check.granted(x, "by 51", x.swayed(0, 51), 50);
        Check.granted(x, "by 99", x.swayed(0, 99), 50);
        Check.granted(x, "close by 99", x.swayed(5, 99), 50);
        Check.granted(x, "close by 0", x.swayed(5, 0), 0);
        Check.granted(x, "even by 99", x.swayed(4, 99), 50);
        Check.granted(x, "the WEIGHT stays", x.weight(0), 50);
        Check.due("nothing to undo", x.size(1), 0);
        x.weigh(5, 10);
        Check.granted(x, "by 99 behind an ACT", x.swayed(0, 99), 10);
        x.undo();
        Check.granted(x, "by 99, that undone", x.swayed(0, 99), 50);
        Check.due("of one NOTE", Check.of(ONE).swayed(5, 99), 0);
    }

    public static void main(String[] args) {
        firm();
        sways();
        swayed();
        Check.end("WeightsBoundsTest");
    }
}
