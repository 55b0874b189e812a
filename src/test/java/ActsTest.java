/** Promises 39 to 44, 46 and 47: ACTS, UNDO, what is told of them, TROUBLE. */
public final class ActsTest {
    private static final String TEXT = "piece bar 4 beat 1 key 0;note 60 long 2;note 72 long 1;note 95 long 1;"
            + "rule step 2;rule close 3";

    private static void pitch() {
        HeadTrees x = Check.of(TEXT);
        Check.granted(x, "pitch(1, 99)", x.pitch(1, 99), 72);
        Check.granted(x, "pitch(1, 0)", x.pitch(1, 0), 99);
        Check.due("PITCH", x.note(1, 0), 0);
        Check.due("STABLE", x.note(1, 4), 2);
        Check.due("step", x.broken(3, 0, 1, 1, 1), 116);
        Check.refused(x, "pitch(1, 100)", x.pitch(1, 100), 2);
        Check.refused(x, "pitch(1, -1)", x.pitch(1, -1), 2);
        Check.refused(x, "pitch(3, 100)", x.pitch(3, 100), 1);
        Check.refused(x, "pitch(-1, 0)", x.pitch(-1, 0), 1);
        Check.due("refused ones are no ACTS", x.size(1), 2);
        Check.granted(x, "undo()", x.undo() ? 1 : 0, 1);
        Check.due("PITCH", x.note(1, 0), 99);
        Check.granted(x, "undo()", x.undo() ? 1 : 0, 1);
        Check.due("PITCH", x.note(1, 0), 72);
    }

    private static void last() {
        HeadTrees x = Check.of(TEXT);
        Check.granted(x, "last(0, 64)", x.last(0, 64), 2);
        Check.granted(x, "last(0, 1)", x.last(0, 1), 64);
        Check.due("LONG", x.note(0, 1), 1);
        Check.due("the next BEGINS", x.note(1, 2), 1);
        Check.due("its STRENGTH", x.note(1, 3), 1);
        Check.due("the one behind BEGINS", x.note(2, 2), 2);
        Check.due("its STRENGTH", x.note(2, 3), 2);
        Check.due("all together", x.about(4), 3);
        Check.refused(x, "last(0, 65)", x.last(0, 65), 2);
        Check.refused(x, "last(0, 0)", x.last(0, 0), 2);
        Check.refused(x, "last(3, 0)", x.last(3, 0), 1);
        Check.refused(x, "last(-1, 1)", x.last(-1, 1), 1);
        x.undo();
        x.undo();
        Check.due("BEGINS as ahead", x.note(1, 2), 2);
        Check.due("its STRENGTH", x.note(1, 3), 2);
    }

    private static void weigh() {
        HeadTrees x = Check.of(TEXT);
        int breaks = x.breaks(0, 2);
        Check.granted(x, "weigh(3, 99)", x.weigh(3, 99), 2);
        Check.granted(x, "weigh(3, 0)", x.weigh(3, 0), 99);
        Check.granted(x, "weigh(0, 0)", x.weigh(0, 0), 0);
        Check.due("WEIGHT", x.weight(3), 0);
        Check.due("RULES above 0", x.about(5), 1);
        Check.due("breaks", x.breaks(0, 2), 0);
        Check.refused(x, "weigh(3, 100)", x.weigh(3, 100), 2);
        Check.refused(x, "weigh(3, -1)", x.weigh(3, -1), 2);
        Check.refused(x, "weigh(6, 100)", x.weigh(6, 100), 1);
        Check.refused(x, "weigh(-1, 0)", x.weigh(-1, 0), 1);
        Check.due("size(1)", x.size(1), 3);
        x.undo();
        x.undo();
        x.undo();
        Check.due("breaks as ahead", x.breaks(0, 2), breaks);
        Check.due("WEIGHT as ahead", x.weight(3), 2);
    }

    private static void key() {
        HeadTrees x = Check.of(TEXT);
        Check.granted(x, "key(11)", x.key(11), 0);
        Check.due("KEY", x.about(2), 11);
        Check.due("STABLE of 60", x.note(0, 4), 0);
        Check.due("STABLE of 95", x.note(2, 4), 2);
        Check.refused(x, "key(12)", x.key(12), 2);
        Check.refused(x, "key(-1)", x.key(-1), 2);
        x.undo();
        Check.due("KEY as ahead", x.about(2), 0);
        Check.due("STABLE as ahead", x.note(0, 4), 2);
    }

    private static void move() {
        HeadTrees x = Check.of(TEXT);
        int breaks = x.breaks(0, 2);
        Check.granted(x, "move(4)", x.move(4), breaks);
        Check.due("PITCH", x.note(2, 0), 99);
        Check.due("STABLE", x.note(0, 4), 1);
        Check.refused(x, "move(1)", x.move(1), 5);
        Check.refused(x, "move(-65)", x.move(-65), 5);
        Check.granted(x, "move(-64)", x.move(-64), breaks);
        Check.due("PITCH", x.note(0, 0), 0);
        Check.granted(x, "move(0)", x.move(0), breaks);
        Check.refused(x, "move(100)", x.move(100), 2);
        Check.refused(x, "move(-100)", x.move(-100), 2);
        Check.refused(x, "move(least)", x.move(Integer.MIN_VALUE), 2);
        Check.due("0 is an ACT, too", x.size(1), 3);
        x.undo();
        x.undo();
        Check.due("PITCH", x.note(0, 0), 64);
        x.undo();
        Check.due("PITCH", x.note(0, 0), 60);
        Check.due("nothing more", x.undo(), false);
        x = Check.of("piece bar 4 beat 1 key 0;note 0 long 2");
        Check.granted(x, "move(99)", x.move(99), 0);
        Check.granted(x, "move(-99)", x.move(-99), 0);
        x = Check.of("piece bar 1 beat 1 key 0;note 60 long 1;note 61 long 1;rule stable 4;rule close 1");
        Check.due("breaks ahead", x.breaks(0, 1), 1);
        Check.granted(x, "move(-1), BREAKS then", x.move(-1), 0);
    }

    private static void undo() {
        HeadTrees x = new HeadTrees();
        Check.due("undo without a PIECE", x.undo(), false);
        Check.due("trouble()", x.trouble(), 1);
        Check.read(x, TEXT);
        Check.due("undo without an ACT", x.undo(), false);
        Check.due("trouble()", x.trouble(), 1);
        for (int v = 1; v <= 13; v++) {
            x.weigh(0, v);
            Check.due("size(1)", x.size(1), Math.min(10, v));
        }
        for (int v = 12; v >= 3; v--) {
            Check.due("undo()", x.undo(), true);
            Check.due("trouble()", x.trouble(), 0);
            Check.due("WEIGHT", x.weight(0), v);
        }
        Check.due("undo() of an eleventh", x.undo(), false);
        Check.due("WEIGHT stays", x.weight(0), 3);
        x.pitch(0, 1);
        x.last(0, 9);
        x.key(7);
        x.undo();
        x.move(2);
        Check.due("PITCH", x.note(0, 0), 3);
        x.undo();
        Check.due("KEY", x.about(2), 0);
        Check.due("PITCH", x.note(0, 0), 1);
        Check.due("LONG", x.note(0, 1), 9);
        x.undo();
        Check.due("LONG", x.note(0, 1), 2);
        x.undo();
        Check.due("PITCH", x.note(0, 0), 60);
        x.key(3);
        Check.read(x, "piece");
        Check.due("a FAULT leaves what can be undone", x.undo(), true);
        Check.due("KEY", x.about(2), 0);
        x.key(3);
        Check.read(x, TEXT);
        Check.due("a new PIECE has nothing to undo", x.undo(), false);
    }

    /** Of twelve ACTS of all kinds the first two are forgotten. */
    private static void undoOfAllKinds() {
        HeadTrees x = Check.of(TEXT);
        x.weigh(4, 1);
        x.pitch(2, 90);
        x.last(1, 3);
        x.key(4);
        x.move(-3);
        x.weigh(5, 8);
        x.pitch(1, 11);
        x.last(0, 5);
        x.key(9);
        x.move(2);
        x.weigh(0, 6);
        x.pitch(0, 44);
        int[][] told = {{59, 13, 89, 5, 3, 9, 6, 8}, {59, 13, 89, 5, 3, 9, 0, 8}, {57, 11, 87, 5, 3, 9, 0, 8},
            {57, 11, 87, 5, 3, 4, 0, 8}, {57, 11, 87, 2, 3, 4, 0, 8}, {57, 69, 87, 2, 3, 4, 0, 8},
            {57, 69, 87, 2, 3, 4, 0, 3}, {60, 72, 90, 2, 3, 4, 0, 3}, {60, 72, 90, 2, 3, 0, 0, 3},
            {60, 72, 90, 2, 1, 0, 0, 3}};
        for (int[] due : told) {
            Check.due("undo()", x.undo(), true);
            Check.due("PITCH of 0", x.note(0, 0), due[0]);
            Check.due("PITCH of 1", x.note(1, 0), due[1]);
            Check.due("PITCH of 2", x.note(2, 0), due[2]);
            Check.due("LONG of 0", x.note(0, 1), due[3]);
            Check.due("LONG of 1", x.note(1, 1), due[4]);
            Check.due("KEY", x.about(2), due[5]);
            Check.due("WEIGHT of strong", x.weight(0), due[6]);
            Check.due("WEIGHT of close", x.weight(5), due[7]);
        }
        Check.due("undo()", x.undo(), false);
        Check.due("PITCH of 2", x.note(2, 0), 90);
        Check.due("WEIGHT of even", x.weight(4), 1);
    }

    private static void withoutPiece() {
        HeadTrees x = new HeadTrees();
        Check.refused(x, "pitch", x.pitch(0, 100), 1);
        Check.refused(x, "last", x.last(0, 0), 1);
        Check.refused(x, "weigh", x.weigh(0, 100), 1);
        Check.refused(x, "key", x.key(12), 1);
        Check.refused(x, "move", x.move(100), 1);
    }

    private static void sizesAndTrouble() {
        HeadTrees x = Check.of(TEXT);
        x.about(9);
        Check.due("size(3)", x.size(3), -1);
        Check.due("size(-1)", x.size(-1), -1);
        Check.feed(x, "x", 0);
        Check.due("size(0)", x.size(0), 20);
        x.where();
        x.fault();
        Check.due("trouble() stays by calls without a number", x.trouble(), 1);
        Check.due("trouble() of itself", x.trouble(), 1);
        x.keep();
        Check.due("trouble() of keep()", x.trouble(), 0);
        Check.refused(x, "move(99)", x.move(99), 5);
        Check.refused(x, "piece(21)", x.piece(21), 2);
        Check.refused(x, "piece(20)", x.piece(20), 4);
        Check.due("where()", x.where(), 0);
        Check.due("size(2)", x.size(2), 1);
        Check.due("where() yet", x.where(), 0);
        Check.due("undo()", x.undo(), false);
        Check.due("where() no more", x.where(), -1);
    }

    public static void main(String[] args) {
        pitch();
        last();
        weigh();
        key();
        move();
        undo();
        undoOfAllKinds();
        withoutPiece();
        sizesAndTrouble();
        Check.end("ActsTest");
    }
}
