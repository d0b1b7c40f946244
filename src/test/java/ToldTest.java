/** Promises 16 to 27: what is told. */
public final class ToldTest {
    private static final Checks CHECKS = new Checks();

    private static void due(String call, int got, int want) {
        CHECKS.due(call, got, want);
    }

    public static void main(String[] args) {
        grains();
        board();
        pan();
        kind();
        needs();
        reason();
        leastAngle();
        restsIn();
        ifTilted();
        slowBoard();
        clearingAngle();
        clearingAngleSkipsNone();
        weighs();
        count();
        tellingChangesNothing();
        CHECKS.end("ToldTest");
    }

    private static void grains() {
        TiltBoards x = new TiltBoards();
        for (int cell = 0; cell < 8; cell++) {
            for (int kind = 0; kind < 4; kind++) {
                x.pour(3, cell, kind, 1 + cell * 2 + kind);
            }
        }
        for (int cell = 0; cell < 8; cell++) {
            for (int kind = 0; kind < 4; kind++) {
                due("grains(3, " + cell + ", " + kind + ")", x.grains(3, cell, kind), 1 + cell * 2 + kind);
                due("grains(2, " + cell + ", " + kind + ")", x.grains(2, cell, kind), 0);
            }
        }
        due("grains(5, 0, 0)", x.grains(5, 0, 0), TiltBoards.UNKNOWN);
        due("grains(0, 8, 0)", x.grains(0, 8, 0), TiltBoards.UNKNOWN);
        due("grains(0, 0, 4)", x.grains(0, 0, 4), TiltBoards.UNKNOWN);
        for (int wrong : Checks.WRONG) {
            due("grains(" + wrong + ", 0, 0)", x.grains(wrong, 0, 0), TiltBoards.UNKNOWN);
            due("grains(0, " + wrong + ", 0)", x.grains(0, wrong, 0), TiltBoards.UNKNOWN);
            due("grains(0, 0, " + wrong + ")", x.grains(0, 0, wrong), TiltBoards.UNKNOWN);
        }
    }

    private static void dueBoard(TiltBoards x, int board, int... answers) {
        for (int what = 0; what < answers.length; what++) {
            due("board(" + board + ", " + what + ")", x.board(board, what), answers[what]);
        }
    }

    private static void board() {
        TiltBoards x = new TiltBoards();
        x.pour(2, 7, 0, 40);
        x.pour(2, 7, 1, 20);
        x.pour(2, 3, 3, 9);
        x.tilt(2, 31);
        dueBoard(x, 2, 31, 69, 0, 0, 0, 3, 0, 0);
        x.pass(1);
        dueBoard(x, 2, 31, 9, 57, 57, 3, 1, 0, 1);
        x.emptyPan(2);
        x.jolt(2);
        dueBoard(x, 2, 31, 9, 0, 57, 3, 1, 1, 0);
        x.pour(2, 0, 0, 1);
        dueBoard(x, 2, 31, 10, 0, 57, 3, 2, 1, 0);
        dueBoard(x, 1, 0, 0, 0, 0, 0, 0, 0, 1);
        due("board(0, 8)", x.board(0, 8), TiltBoards.BAD_VALUE);
        due("board(5, 8)", x.board(5, 8), TiltBoards.UNKNOWN);
        for (int wrong : Checks.WRONG) {
            due("board(" + wrong + ", 0)", x.board(wrong, 0), TiltBoards.UNKNOWN);
            due("board(0, " + wrong + ")", x.board(0, wrong), TiltBoards.BAD_VALUE);
        }
    }

    private static void pan() {
        TiltBoards x = new TiltBoards();
        for (int kind = 0; kind < 4; kind++) {
            x.pour(4, 7, kind, 1 + kind);
        }
        x.tilt(4, 90);
        x.pass(1);
        for (int kind = 0; kind < 4; kind++) {
            due("pan(4, " + kind + ")", x.pan(4, kind), 1 + kind);
            due("pan(0, " + kind + ")", x.pan(0, kind), 0);
        }
        due("pan(5, 0)", x.pan(5, 0), TiltBoards.UNKNOWN);
        due("pan(0, 4)", x.pan(0, 4), TiltBoards.UNKNOWN);
        for (int wrong : Checks.WRONG) {
            due("pan(" + wrong + ", 0)", x.pan(wrong, 0), TiltBoards.UNKNOWN);
            due("pan(0, " + wrong + ")", x.pan(0, wrong), TiltBoards.UNKNOWN);
        }
    }

    private static void kind() {
        TiltBoards x = new TiltBoards();
        x.pour(0, 7, 1, 40);
        x.pour(0, 6, 1, 5);
        x.pour(4, 0, 1, 7);
        x.pour(4, 0, 2, 8);
        x.tilt(0, 29);
        x.setGrip(1, 24);
        x.pass(1);
        int[] due = {24, 12, 38, 52};
        for (int what = 0; what < 4; what++) {
            due("kind(1, " + what + ")", x.kind(1, what), due[what]);
        }
        due("kind(2, 0)", x.kind(2, 0), 30);
        due("kind(2, 1)", x.kind(2, 1), 8);
        due("kind(2, 2)", x.kind(2, 2), 0);
        due("kind(2, 3)", x.kind(2, 3), 8);
        x.emptyPan(0);
        due("kind(1, 2)", x.kind(1, 2), 0);
        due("kind(1, 3)", x.kind(1, 3), 52);
        due("kind(0, 4)", x.kind(0, 4), TiltBoards.BAD_VALUE);
        due("kind(4, 4)", x.kind(4, 4), TiltBoards.UNKNOWN);
        for (int wrong : Checks.WRONG) {
            due("kind(" + wrong + ", 0)", x.kind(wrong, 0), TiltBoards.UNKNOWN);
            due("kind(0, " + wrong + ")", x.kind(0, wrong), TiltBoards.BAD_VALUE);
        }
    }

    private static void needs() {
        TiltBoards x = new TiltBoards();
        due("needs(0, 0, 0)", x.needs(0, 0, 0), TiltBoards.NONE);
        x.pour(0, 0, 0, 9);
        due("needs(0, 0, 0)", x.needs(0, 0, 0), 20);
        x.pour(0, 0, 0, 1);
        due("needs(0, 0, 0)", x.needs(0, 0, 0), 21);
        x.pour(0, 0, 3, 10);
        due("all on the cell count", x.needs(0, 0, 0), 22);
        due("needs(0, 0, 3)", x.needs(0, 0, 3), 37);
        due("needs(0, 0, 1)", x.needs(0, 0, 1), TiltBoards.NONE);
        due("needs(0, 1, 0)", x.needs(0, 1, 0), TiltBoards.NONE);
        x.jolt(0);
        due("moving", x.needs(0, 0, 0), 17);
        x.set(0, 0);
        due("moving, and setting 0 is 0", x.needs(0, 0, 0), 22);
        x.set(0, 30);
        due("moving, and setting 0 is 30", x.needs(0, 0, 0), 0);
        due("moving, and setting 0 is 30", x.needs(0, 0, 3), 7);
        x.pass(1);
        x.setGrip(3, 80);
        x.set(1, 1);
        x.pour(0, 4, 3, 99);
        due("more than any board has", x.needs(0, 4, 3), 179);
        due("needs(5, 0, 0)", x.needs(5, 0, 0), TiltBoards.UNKNOWN);
        due("needs(0, 8, 0)", x.needs(0, 8, 0), TiltBoards.UNKNOWN);
        due("needs(0, 0, 4)", x.needs(0, 0, 4), TiltBoards.UNKNOWN);
        for (int wrong : Checks.WRONG) {
            due("needs(" + wrong + ", 0, 0)", x.needs(wrong, 0, 0), TiltBoards.UNKNOWN);
            due("needs(0, " + wrong + ", 0)", x.needs(0, wrong, 0), TiltBoards.UNKNOWN);
            due("needs(0, 0, " + wrong + ")", x.needs(0, 0, wrong), TiltBoards.UNKNOWN);
        }
    }

    private static void reason() {
        TiltBoards x = new TiltBoards();
        x.pour(0, 0, 0, 10);
        x.pour(0, 1, 3, 99);
        x.pour(0, 7, 3, 99);
        due("no heap", x.reason(0, 0, 1), 1);
        due("too flat, and no room", x.reason(0, 0, 0), 2);
        x.tilt(0, 20);
        due("too flat still", x.reason(0, 0, 0), 2);
        x.tilt(0, 21);
        due("no room", x.reason(0, 0, 0), 3);
        due("too flat", x.reason(0, 1, 3), 2);
        x.tilt(0, 44);
        due("slides", x.reason(0, 1, 3), 0);
        due("slides into the pan", x.reason(0, 7, 3), 0);
        due("no room at this moment", x.reason(0, 0, 0), 3);
        due("reason(5, 0, 0)", x.reason(5, 0, 0), TiltBoards.UNKNOWN);
        due("reason(0, 8, 0)", x.reason(0, 8, 0), TiltBoards.UNKNOWN);
        due("reason(0, 0, 4)", x.reason(0, 0, 4), TiltBoards.UNKNOWN);
        for (int wrong : Checks.WRONG) {
            due("reason(" + wrong + ", 0, 0)", x.reason(wrong, 0, 0), TiltBoards.UNKNOWN);
            due("reason(0, " + wrong + ", 0)", x.reason(0, wrong, 0), TiltBoards.UNKNOWN);
            due("reason(0, 0, " + wrong + ")", x.reason(0, 0, wrong), TiltBoards.UNKNOWN);
        }
    }

    private static void leastAngle() {
        TiltBoards x = new TiltBoards();
        due("without sand", x.leastAngle(0), TiltBoards.NONE);
        x.pour(0, 3, 2, 50);
        due("leastAngle(0)", x.leastAngle(0), 35);
        x.pour(0, 3, 0, 5);
        due("leastAngle(0)", x.leastAngle(0), 25);
        x.pour(0, 4, 3, 99);
        due("what has no room does not count", x.leastAngle(0), 44);
        x.tilt(0, 90);
        due("whatever angle there is", x.leastAngle(0), 44);
        x.pour(1, 0, 1, 1);
        x.pour(1, 1, 3, 98);
        due("one grain, and room for one", x.leastAngle(1), 25);
        x.pour(1, 1, 3, 1);
        due("one grain, and no room", x.leastAngle(1), 44);
        x.jolt(0);
        due("moving heaps need less", x.leastAngle(0), 39);
        x.set(0, 30);
        x.setGrip(3, 10);
        due("but at least 0", x.leastAngle(0), 0);

        TiltBoards y = new TiltBoards();
        y.setGrip(0, 80);
        y.set(1, 9);
        y.pour(0, 7, 0, 98);
        due("leastAngle(0)", y.leastAngle(0), 90);
        y.pour(0, 7, 0, 1);
        due("91 is too much", y.leastAngle(0), TiltBoards.NONE);
        due("leastAngle(5)", x.leastAngle(5), TiltBoards.UNKNOWN);
        for (int wrong : Checks.WRONG) {
            due("leastAngle(" + wrong + ")", x.leastAngle(wrong), TiltBoards.UNKNOWN);
        }
    }

    private static void restsIn() {
        TiltBoards x = new TiltBoards();
        due("without sand", x.restsIn(0), 0);
        x.pour(0, 0, 0, 10);
        due("restsIn(0)", x.restsIn(0), 0);
        x.tilt(0, 21);
        due("restsIn(0)", x.restsIn(0), 8);
        x.pour(0, 7, 3, 10);
        due("restsIn(0)", x.restsIn(0), 8);
        x.pass(3);
        due("restsIn(0)", x.restsIn(0), 5);
        x.tilt(0, 15);
        due("restsIn(0)", x.restsIn(0), 0);
        x.tilt(0, 16);
        due("it is moving, but the cell 7 holds it", x.restsIn(0), 4);
        due("restsIn(1)", x.restsIn(1), 0);
        x.tilt(1, 90);
        x.pour(1, 0, 2, 1);
        due("one grain on the cell 0", x.restsIn(1), 8);
        due("the board is not at rest", x.board(1, 7), 0);
        due("restsIn(5)", x.restsIn(5), TiltBoards.UNKNOWN);
        for (int wrong : Checks.WRONG) {
            due("restsIn(" + wrong + ")", x.restsIn(wrong), TiltBoards.UNKNOWN);
        }
    }

    private static void ifTilted() {
        TiltBoards x = new TiltBoards();
        for (int what = 0; what < 4; what++) {
            due("without sand", x.ifTilted(0, 90, what), 0);
        }
        x.pour(0, 7, 0, 40);
        x.pour(0, 5, 1, 9);
        x.pour(0, 5, 3, 30);
        x.tilt(0, 90);
        x.pass(1);
        // 38 are in the pan, 3 are dust: what fell and was lost so far does not count again.
        x.tilt(0, 0);
        int[][] due = {{0, 0, 0, 38}, {2, 9, 0, 29}, {2, 36, 2, 0}};
        int[] angles = {0, 25, 90};
        for (int i = 0; i < angles.length; i++) {
            for (int what = 0; what < 4; what++) {
                due("ifTilted(0, " + angles[i] + ", " + what + ")", x.ifTilted(0, angles[i], what), due[i][what]);
            }
        }
        due("the angle is as it was", x.board(0, 0), 0);
        due("ifTilted(5, 91, 4)", x.ifTilted(5, 91, 4), TiltBoards.UNKNOWN);
        due("ifTilted(0, 91, 0)", x.ifTilted(0, 91, 0), TiltBoards.BAD_VALUE);
        due("ifTilted(0, 0, 4)", x.ifTilted(0, 0, 4), TiltBoards.BAD_VALUE);
        for (int wrong : Checks.WRONG) {
            due("ifTilted(" + wrong + ", 0, 0)", x.ifTilted(wrong, 0, 0), TiltBoards.UNKNOWN);
            due("ifTilted(0, " + wrong + ", 0)", x.ifTilted(0, wrong, 0), TiltBoards.BAD_VALUE);
            due("ifTilted(0, 0, " + wrong + ")", x.ifTilted(0, 0, wrong), TiltBoards.BAD_VALUE);
        }
    }

    /** A board with so little room on its cell 7 that one grain goes in a tick. */
    private static void slowBoard() {
        TiltBoards x = new TiltBoards();
        x.setGrip(3, 80);
        x.set(1, 99);
        x.pour(0, 7, 3, 98);
        x.tilt(0, 50);
        x.pour(0, 6, 0, 99);
        x.pour(0, 5, 0, 99);
        x.pour(0, 4, 0, 99);
        due("297 grains go one by one", x.restsIn(0), 298);
        x.pour(0, 3, 0, 2);
        due("restsIn(0)", x.restsIn(0), 300);
        due("ifTilted ticks", x.ifTilted(0, 50, 0), 300);
        due("all have fallen", x.ifTilted(0, 50, 1), 299);
        x.pour(0, 3, 0, 1);
        due("not within 300", x.restsIn(0), TiltBoards.NONE);
        due("300 ticks at most", x.ifTilted(0, 50, 0), 300);
        due("one is still on its way", x.ifTilted(0, 50, 1), 299);
        due("no dust", x.ifTilted(0, 50, 2), 0);
        due("it is left with the others", x.ifTilted(0, 50, 3), 99);
    }

    private static void clearingAngle() {
        TiltBoards x = new TiltBoards();
        due("without sand", x.clearingAngle(0), 0);
        x.pour(0, 7, 1, 20);
        due("clearingAngle(0)", x.clearingAngle(0), 27);
        x.pour(0, 0, 3, 9);
        due("clearingAngle(0)", x.clearingAngle(0), 35);
        x.jolt(0);
        due("what is at rest by then needs more", x.clearingAngle(0), 30);
        x.set(0, 30);
        due("moving", x.clearingAngle(0), 5);
        x.setGrip(3, 80);
        x.set(0, 0);
        due("clearingAngle(0)", x.clearingAngle(0), 80);
        x.set(1, 1);
        due("clearingAngle(0)", x.clearingAngle(0), 89);
        x.pour(0, 0, 3, 1);
        due("clearingAngle(0)", x.clearingAngle(0), 90);
        x.pour(0, 0, 3, 1);
        due("clearingAngle(0)", x.clearingAngle(0), TiltBoards.NONE);
        due("clearingAngle(5)", x.clearingAngle(5), TiltBoards.UNKNOWN);
        for (int wrong : Checks.WRONG) {
            due("clearingAngle(" + wrong + ")", x.clearingAngle(wrong), TiltBoards.UNKNOWN);
        }

        TiltBoards y = new TiltBoards();
        y.setGrip(0, 0);
        y.set(1, 99);
        y.pour(3, 4, 0, 9);
        due("a level board can clear itself", y.clearingAngle(3), 0);
    }

    /** A board that is cleared at 32 degrees, but on which heaps meet and stick at 33. */
    private static void clearingAngleSkipsNone() {
        TiltBoards x = new TiltBoards();
        x.set(0, 19);
        x.pour(0, 1, 2, 74);
        x.pour(0, 3, 1, 95);
        x.jolt(0);
        x.pour(0, 4, 2, 60);
        due("left at 31", x.ifTilted(0, 31, 3) > 0 ? 1 : 0, 1);
        due("left at 32", x.ifTilted(0, 32, 3), 0);
        due("left at 33", x.ifTilted(0, 33, 3), 46);
        due("clearingAngle(0)", x.clearingAngle(0), 32);
        for (int angle = 0; angle < 32; angle++) {
            due("some are left at " + angle, x.ifTilted(0, angle, 3) > 0 ? 1 : 0, 1);
        }
    }

    private static void weighs() {
        TiltBoards x = new TiltBoards();
        due("least for 20", x.weighs(0, 20, false), 1);
        due("most for 20", x.weighs(0, 20, true), 9);
        due("least for 21", x.weighs(0, 21, false), 10);
        due("most for 21", x.weighs(0, 21, true), 19);
        due("least for 29", x.weighs(0, 29, false), 90);
        due("most for 29", x.weighs(0, 29, true), 99);
        due("30 is too much", x.weighs(0, 30, false), TiltBoards.NONE);
        due("30 is too much", x.weighs(0, 30, true), TiltBoards.NONE);
        due("19 is too little", x.weighs(0, 19, true), TiltBoards.NONE);
        due("least for 35", x.weighs(3, 35, false), 1);
        x.set(1, 1);
        due("20 would be 0 grains", x.weighs(0, 20, false), TiltBoards.NONE);
        due("least for 21", x.weighs(0, 21, false), 1);
        due("most for 21", x.weighs(0, 21, true), 1);
        due("most for 90", x.weighs(0, 90, true), 70);
        x.setGrip(0, 0);
        due("most for 0", x.weighs(0, 0, true), TiltBoards.NONE);
        x.set(1, 99);
        due("least for 0", x.weighs(0, 0, false), 1);
        due("most for 0", x.weighs(0, 0, true), 98);
        due("least for 1", x.weighs(0, 1, false), 99);
        due("most for 1", x.weighs(0, 1, true), 99);
        due("weighs(4, 91, true)", x.weighs(4, 91, true), TiltBoards.UNKNOWN);
        due("weighs(0, 91, true)", x.weighs(0, 91, true), TiltBoards.BAD_VALUE);
        for (int wrong : Checks.WRONG) {
            due("weighs(" + wrong + ", 0, true)", x.weighs(wrong, 0, true), TiltBoards.UNKNOWN);
            due("weighs(0, " + wrong + ", false)", x.weighs(0, wrong, false), TiltBoards.BAD_VALUE);
        }
        x.pour(0, 0, 0, 9);
        x.jolt(0);
        due("what lies there does not matter", x.weighs(0, 0, true), 98);
    }

    private static void count() {
        TiltBoards x = new TiltBoards();
        x.set(0, 6);
        x.set(1, 11);
        x.set(2, 21);
        x.pour(0, 7, 0, 42);
        x.pour(1, 7, 1, 43);
        x.pour(2, 3, 3, 44);
        x.tilt(0, 90);
        x.tilt(1, 90);
        due("boards at rest", x.count(6), 3);
        x.pass(9);
        x.emptyPan(0);
        x.pour(0, 7, 2, 20);
        x.pass(1);
        x.pour(0, 0, 2, 1);
        x.tilt(2, 90);
        x.type('q');
        x.type('q');
        int[] due = {10, 45, 61, 4, 150, 40, 3, 6, 11, 21, 4, 2};
        for (int what = 0; what < due.length; what++) {
            due("count(" + what + ")", x.count(what), due[what]);
        }
        due("the accounts add up", x.count(1) + x.count(2) + x.count(3) + x.count(5), x.count(4));
        due("count(12)", x.count(12), TiltBoards.BAD_VALUE);
        for (int wrong : Checks.WRONG) {
            due("count(" + wrong + ")", x.count(wrong), TiltBoards.BAD_VALUE);
        }
    }

    private static void tellingChangesNothing() {
        TiltBoards x = new TiltBoards();
        x.pour(0, 0, 0, 50);
        x.pour(0, 3, 1, 50);
        x.jolt(0);
        x.tilt(0, 24);
        for (int i = 0; i < 3; i++) {
            due("restsIn", x.restsIn(0), 8);
            due("ifTilted", x.ifTilted(0, 90, 3), 0);
            due("clearingAngle", x.clearingAngle(0), 25);
            due("leastAngle", x.leastAngle(0), 20);
            due("needs", x.needs(0, 0, 0), 20);
            due("moving", x.board(0, 6), 2);
            due("angle", x.board(0, 0), 24);
            due("tick", x.count(0), 0);
            due("states", x.count(10), 4);
        }
    }
}
