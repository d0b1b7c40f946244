/** Promises 13 to 15: undo, keep and restore. */
public final class HistoryTest {
    private static final Checks CHECKS = new Checks();

    private static void due(String call, int got, int want) {
        CHECKS.due(call, got, want);
    }

    public static void main(String[] args) {
        undo();
        undoDropsTheOldest();
        undoOfEveryAct();
        keep();
        restore();
        whatIsNoState();
        CHECKS.end("HistoryTest");
    }

    private static void undo() {
        TiltBoards x = new TiltBoards();
        due("undo()", x.undo(), TiltBoards.NONE);
        x.tilt(0, 1);
        due("undo()", x.undo(), 0);
        due("angle", x.board(0, 0), 0);
        due("undo()", x.undo(), TiltBoards.NONE);
        x.tilt(0, 2);
        x.tilt(0, 3);
        due("undo()", x.undo(), 1);
        due("angle", x.board(0, 0), 2);
        x.tilt(0, 4);
        due("states", x.count(10), 2);
        due("undo()", x.undo(), 1);
        due("angle", x.board(0, 0), 2);
        due("undo()", x.undo(), 0);
        due("angle", x.board(0, 0), 0);
    }

    private static void undoDropsTheOldest() {
        for (int acts = 1; acts <= 13; acts++) {
            TiltBoards x = new TiltBoards();
            for (int angle = 1; angle <= acts; angle++) {
                x.tilt(2, angle);
                due("states", x.count(10), Math.min(angle, 4));
            }
            int held = Math.min(acts, 4);
            for (int left = held - 1; left >= 0; left--) {
                due("undo()", x.undo(), left);
                due("angle", x.board(2, 0), acts - held + left);
            }
            due("undo()", x.undo(), TiltBoards.NONE);
            due("angle", x.board(2, 0), acts - held);
        }
    }

    /** Undo brings back each part of the state. */
    private static void undoOfEveryAct() {
        TiltBoards x = new TiltBoards();
        x.pour(1, 7, 2, 50);
        x.tilt(1, 90);
        due("pass(3)", x.pass(3), 48);
        x.undo();
        due("tick", x.count(0), 0);
        due("grains", x.grains(1, 7, 2), 50);
        due("pan", x.pan(1, 2), 0);
        due("fallen", x.board(1, 3), 0);
        due("dust", x.board(1, 4), 0);
        x.undo();
        due("angle", x.board(1, 0), 0);
        x.undo();
        due("grains", x.grains(1, 7, 2), 0);
        due("poured", x.kind(2, 3), 0);
        x.setGrip(0, 40);
        x.setGrip(0, 50);
        x.undo();
        due("grip", x.kind(0, 0), 40);
        x.undo();
        due("grip", x.kind(0, 0), 20);
        x.set(1, 99);
        x.undo();
        due("setting", x.count(8), 10);
        x.pour(0, 0, 0, 5);
        x.jolt(0);
        x.undo();
        due("moving", x.board(0, 6), 0);

        x.pour(4, 0, 0, 5);
        x.pour(4, 0, 0, 6);
        x.undo();
        due("grains", x.grains(4, 0, 0), 5);
        x.set(0, 1);
        x.set(0, 2);
        x.undo();
        due("setting", x.count(7), 1);
        x.pass(1);
        x.pass(2);
        x.undo();
        due("tick", x.count(0), 1);

        // The order of the kinds goes with the grips.
        TiltBoards y = new TiltBoards();
        y.pour(0, 6, 0, 20);
        y.pour(0, 6, 1, 20);
        y.pour(0, 7, 3, 79);
        y.tilt(0, 33);
        y.setGrip(0, 27);
        y.undo();
        y.pass(1);
        due("kind 0 went first again", y.grains(0, 7, 0), 19);
        due("only one of kind 1 had room", y.grains(0, 7, 1), 1);
    }

    private static void keep() {
        TiltBoards x = new TiltBoards();
        due("keep()", x.keep(), 0);
        due("no act", x.count(10), 0);
        x.pass(7);
        due("keep()", x.keep(), 7);
        x.pass(7);
        due("restore()", x.restore(), 7);
        due("tick", x.count(0), 7);
        due("the snapshot stays", x.restore(), 7);
        x.undo();
        due("tick", x.count(0), 7);
        x.undo();
        due("tick", x.count(0), 14);
        due("keep() in place of the one that was", x.keep(), 14);
        x.undo();
        due("undo() leaves the snapshot", x.restore(), 14);
    }

    private static void restore() {
        TiltBoards x = new TiltBoards();
        due("restore()", x.restore(), TiltBoards.NONE);
        due("no act", x.count(10), 0);
        x.pour(0, 0, 0, 9);
        x.jolt(0);
        x.keep();
        x.setGrip(0, 33);
        x.tilt(0, 90);
        x.pass(8);
        due("pan", x.pan(0, 0), 9);
        due("restore()", x.restore(), 0);
        due("states", x.count(10), 4);
        due("grains", x.grains(0, 0, 0), 9);
        due("moving", x.board(0, 6), 1);
        due("grip", x.kind(0, 0), 20);
        due("pan", x.pan(0, 0), 0);
        due("undo()", x.undo(), 3);
        due("pan", x.pan(0, 0), 9);
        due("grip", x.kind(0, 0), 33);
        due("restore()", x.restore(), 0);
        x.pour(0, 0, 0, 9);
        due("restore()", x.restore(), 0);
        due("acts after it leave the snapshot as it was", x.grains(0, 0, 0), 9);
        due("restore() of what is so already is an act", x.restore(), 0);
        due("states", x.count(10), 4);
        due("undo()", x.undo(), 3);
        due("undo()", x.undo(), 2);
        due("grains", x.grains(0, 0, 0), 18);
    }

    private static void whatIsNoState() {
        TiltBoards x = new TiltBoards();
        x.tilt(0, 1);
        x.keep();
        Checks.typeAll(x, "j0;");
        x.undo();
        due("the text is in no state", x.count(11), 3);
        x.restore();
        due("the text is in no snapshot", x.count(11), 3);
        due("the history is in no snapshot", x.count(10), 1);
        x.undo();
        due("restore() after undo()", x.restore(), 0);
        due("angle", x.board(0, 0), 1);
    }
}
