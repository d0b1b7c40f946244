import java.util.function.ToIntFunction;

/**
 * Promises 16 to 27 at their edges: each parameter at its first and last value and just outside, each
 * answer at the point where it turns; nothing changes, whether a call answers or refuses.
 */
public final class EdgesOfToldTest {
    private static final Checks CHECKS = new Checks();
    private static final Twins TWINS = new Twins(CHECKS);
    private static final int UNKNOWN = TiltBoards.UNKNOWN;
    private static final int BAD_VALUE = TiltBoards.BAD_VALUE;
    private static final int NONE = TiltBoards.NONE;
    private static final int LEAST = Integer.MIN_VALUE;
    private static final int MOST = Integer.MAX_VALUE;
    private static final int[] NO_BOARDS = {LEAST, -1, 5, MOST};
    private static final int[] NO_CELLS = {LEAST, -1, 8, MOST};
    private static final int[] NO_KINDS = {LEAST, -1, 4, MOST};
    private static final int[] NO_ANGLES = {LEAST, -1, 91, MOST};

    private interface OfPlace {
        int on(TiltBoards x, int board, int cell, int kind);
    }

    private static void due(String call, int got, int want) {
        CHECKS.due(call, got, want);
    }

    /** It answers so on a busy object, and changes nothing. */
    private static void told(String name, ToIntFunction<TiltBoards> call, int want) {
        TWINS.unchanged(name, Twins::busy, call, want);
    }

    /** It is refused so, on a busy object and on a new one, and changes nothing. */
    private static void refused(String name, ToIntFunction<TiltBoards> call, int want) {
        TWINS.unchanged(name + " on a busy object", Twins::busy, call, want);
        TWINS.unchanged(name + " on a new object", x -> { }, call, want);
    }

    private static void refusedPlaces(String name, OfPlace call) {
        for (int board : NO_BOARDS) {
            refused(name + "(" + board + ", 0, 0)", x -> call.on(x, board, 0, 0), UNKNOWN);
        }
        for (int cell : NO_CELLS) {
            refused(name + "(0, " + cell + ", 0)", x -> call.on(x, 0, cell, 0), UNKNOWN);
        }
        for (int kind : NO_KINDS) {
            refused(name + "(0, 0, " + kind + ")", x -> call.on(x, 0, 0, kind), UNKNOWN);
        }
        refused(name + "(-1, 7, 3)", x -> call.on(x, -1, 7, 3), UNKNOWN);
        refused(name + "(5, 0, 0)", x -> call.on(x, 5, 0, 0), UNKNOWN);
        refused(name + "(4, 8, 3)", x -> call.on(x, 4, 8, 3), UNKNOWN);
        refused(name + "(4, 7, 4)", x -> call.on(x, 4, 7, 4), UNKNOWN);
    }

    public static void main(String[] args) {
        refusedPlaces("grains", TiltBoards::grains);
        refusedPlaces("needs", TiltBoards::needs);
        refusedPlaces("reason", TiltBoards::reason);
        grainsAtTheirEdges();
        boardRefused();
        boardTold();
        panAtItsEdges();
        kindAtItsEdges();
        needsWithAndWithoutHeap();
        needsBeyondAnyAngle();
        reasonsInTheirOrder();
        leastAngleUpTo90();
        leastAngleWithRoom();
        leastAngleOfMovingHeaps();
        restsInUpTo300();
        ifTiltedRefused();
        ifTiltedAtItsEdges();
        ifTiltedFor300Ticks();
        clearingAngleUpTo90();
        clearingAngleWithin300();
        weighsRefused();
        weighsAtItsEdges();
        countRefused();
        countTold();
        CHECKS.end("EdgesOfToldTest");
    }

    private static void grainsAtTheirEdges() {
        TiltBoards x = new TiltBoards();
        x.pour(0, 0, 0, 1);
        x.pour(0, 0, 3, 2);
        x.pour(0, 7, 0, 3);
        x.pour(0, 7, 3, 4);
        x.pour(4, 0, 0, 5);
        x.pour(4, 0, 3, 6);
        x.pour(4, 7, 0, 7);
        x.pour(4, 7, 3, 99 - 7);
        due("grains(0, 0, 0)", x.grains(0, 0, 0), 1);
        due("grains(0, 0, 3)", x.grains(0, 0, 3), 2);
        due("grains(0, 7, 0)", x.grains(0, 7, 0), 3);
        due("grains(0, 7, 3)", x.grains(0, 7, 3), 4);
        due("grains(4, 0, 0)", x.grains(4, 0, 0), 5);
        due("grains(4, 0, 3)", x.grains(4, 0, 3), 6);
        due("grains(4, 7, 0)", x.grains(4, 7, 0), 7);
        due("grains(4, 7, 3)", x.grains(4, 7, 3), 92);
        due("grains(1, 0, 0)", x.grains(1, 0, 0), 0);
        told("grains(2, 0, 1)", y -> y.grains(2, 0, 1), 99);
        told("grains(4, 7, 3)", y -> y.grains(4, 7, 3), 0);
    }

    private static void boardRefused() {
        int[] noTellings = {LEAST, -1, 8, MOST};
        for (int board : NO_BOARDS) {
            refused("board(" + board + ", 0)", x -> x.board(board, 0), UNKNOWN);
            refused("board(" + board + ", 7)", x -> x.board(board, 7), UNKNOWN);
            refused("board(" + board + ", 8)", x -> x.board(board, 8), UNKNOWN);
            refused("board(" + board + ", -1)", x -> x.board(board, -1), UNKNOWN);
        }
        for (int what : noTellings) {
            refused("board(0, " + what + ")", x -> x.board(0, what), BAD_VALUE);
            refused("board(4, " + what + ")", x -> x.board(4, what), BAD_VALUE);
        }
    }

    private static void boardTold() {
        int[] boards = {0, 4};
        for (int board : boards) {
            TiltBoards x = new TiltBoards();
            x.pour(board, 7, 0, 20);
            x.pour(board, 6, 1, 1);
            x.pour(board, 5, 3, 7);
            x.tilt(board, 25);
            dueBoard(x, board, 25, 28, 0, 0, 0, 3, 0, 0);
            x.pass(1);
            dueBoard(x, board, 25, 8, 19, 19, 1, 2, 1, 0);
            x.emptyPan(board);
            dueBoard(x, board, 25, 8, 0, 19, 1, 2, 1, 0);
            x.pass(1);
            dueBoard(x, board, 25, 7, 1, 20, 1, 1, 0, 1);
            x.tilt(board, 34);
            dueBoard(x, board, 34, 7, 1, 20, 1, 1, 0, 1);
            x.tilt(board, 35);
            dueBoard(x, board, 35, 7, 1, 20, 1, 1, 0, 0);
            x.pass(3);
            dueBoard(x, board, 35, 0, 8, 27, 1, 0, 0, 1);
            dueBoard(x, 4 - board, 0, 0, 0, 0, 0, 0, 0, 1);
        }
        int[] busy = {33, 189, 0, 56, 4, 4, 2, 0};
        for (int i = 0; i < 8; i++) {
            int what = i;
            told("board(0, " + what + ")", x -> x.board(0, what), busy[what]);
        }
    }

    private static void dueBoard(TiltBoards x, int board, int... answers) {
        for (int what = 0; what < answers.length; what++) {
            due("board(" + board + ", " + what + ")", x.board(board, what), answers[what]);
        }
    }

    private static void panAtItsEdges() {
        for (int board : NO_BOARDS) {
            refused("pan(" + board + ", 0)", x -> x.pan(board, 0), UNKNOWN);
            refused("pan(" + board + ", 3)", x -> x.pan(board, 3), UNKNOWN);
        }
        for (int kind : NO_KINDS) {
            refused("pan(0, " + kind + ")", x -> x.pan(0, kind), UNKNOWN);
            refused("pan(4, " + kind + ")", x -> x.pan(4, kind), UNKNOWN);
        }
        int[] boards = {0, 4};
        int[] kinds = {0, 3};
        for (int board : boards) {
            for (int kind : kinds) {
                TiltBoards x = new TiltBoards();
                x.pour(board, 7, kind, 3);
                x.tilt(board, 90);
                due("before it falls", x.pan(board, kind), 0);
                x.pass(1);
                due("pan()", x.pan(board, kind), 3);
                due("not another kind", x.pan(board, 3 - kind), 0);
                due("not another board", x.pan(4 - board, kind), 0);
            }
        }
        told("pan(3, 1)", x -> x.pan(3, 1), 28);
        told("pan(0, 0) that was emptied", x -> x.pan(0, 0), 0);
    }

    private static void kindAtItsEdges() {
        int[] noTellings = {LEAST, -1, 4, MOST};
        for (int kind : NO_KINDS) {
            refused("kind(" + kind + ", 0)", x -> x.kind(kind, 0), UNKNOWN);
            refused("kind(" + kind + ", 3)", x -> x.kind(kind, 3), UNKNOWN);
            refused("kind(" + kind + ", 4)", x -> x.kind(kind, 4), UNKNOWN);
            refused("kind(" + kind + ", -1)", x -> x.kind(kind, -1), UNKNOWN);
        }
        for (int what : noTellings) {
            refused("kind(0, " + what + ")", x -> x.kind(0, what), BAD_VALUE);
            refused("kind(3, " + what + ")", x -> x.kind(3, what), BAD_VALUE);
        }
        // On the boards 0 to 3 of the busy object: 90, 99, 98 of the kind 1; 30 of it slid, 2 as dust.
        int[] busy = {25, 287, 28, 317};
        for (int i = 0; i < 4; i++) {
            int what = i;
            told("kind(1, " + what + ")", x -> x.kind(1, what), busy[what]);
        }
        int[] kinds = {0, 3};
        for (int kind : kinds) {
            TiltBoards x = new TiltBoards();
            for (int board = 0; board < 5; board++) {
                x.pour(board, 7, kind, 1 + board);
                x.tilt(board, board % 2 * 90);
            }
            x.pass(1);
            due("on the boards 0, 2 and 4", x.kind(kind, 1), 9);
            due("in the pans of 1 and 3", x.kind(kind, 2), 6);
            due("poured", x.kind(kind, 3), 15);
            x.emptyPan(3);
            due("in the pan of 1", x.kind(kind, 2), 2);
            due("poured", x.kind(kind, 3), 15);
            x.setGrip(kind, 80);
            due("grip", x.kind(kind, 0), 80);
            due("none of the other", x.kind(3 - kind, 1) + x.kind(3 - kind, 2) + x.kind(3 - kind, 3), 0);
        }
    }

    // "NONE if there is no such heap"
    private static void needsWithAndWithoutHeap() {
        int[] boards = {0, 4};
        int[] cells = {0, 7};
        int[] kinds = {0, 3};
        for (int board : boards) {
            for (int cell : cells) {
                for (int kind : kinds) {
                    TiltBoards x = new TiltBoards();
                    due("no grain", x.needs(board, cell, kind), NONE);
                    x.pour(board, cell, 3 - kind, 98);
                    due("grains of another kind", x.needs(board, cell, kind), NONE);
                    x.pour(board, cell, kind, 1);
                    due("one grain", x.needs(board, cell, kind), 20 + 5 * kind + 9);
                    x.undo();
                    due("undone", x.needs(board, cell, kind), NONE);
                }
            }
        }
        TiltBoards x = new TiltBoards();
        x.pour(0, 7, 0, 1);
        x.tilt(0, 90);
        x.pass(1);
        due("it has gone", x.needs(0, 7, 0), NONE);
        due("why", x.reason(0, 7, 0), 1);
        told("needs(2, 0, 1)", y -> y.needs(2, 0, 1), 36);
        told("needs(1, 3, 3) of a moving heap", y -> y.needs(1, 3, 3), 35 + 10 - 7);
        told("needs(4, 7, 3)", y -> y.needs(4, 7, 3), NONE);
    }

    private static void needsBeyondAnyAngle() {
        TiltBoards x = new TiltBoards();
        x.setGrip(3, 80);
        x.set(1, 1);
        x.pour(0, 0, 3, 10);
        due("90", x.needs(0, 0, 3), 90);
        x.pour(0, 0, 3, 1);
        due("91", x.needs(0, 0, 3), 91);
        x.pour(0, 0, 0, 88);
        due("the most that any heap needs", x.needs(0, 0, 3), 179);
        TiltBoards y = new TiltBoards();
        y.setGrip(0, 0);
        y.set(1, 2);
        y.pour(0, 0, 0, 1);
        due("the least", y.needs(0, 0, 0), 0);
        y.pour(0, 0, 0, 1);
        due("a degree more", y.needs(0, 0, 0), 1);
    }

    // "0 if it does; the first that holds: 1 there is no such heap, 2 the angle is too small, 3 there is no
    // room below"
    private static void reasonsInTheirOrder() {
        TiltBoards x = new TiltBoards();
        x.setGrip(3, 80);
        x.pour(4, 1, 3, 99);
        due("no heap, too flat, no room", x.reason(4, 0, 0), 1);
        x.tilt(4, 90);
        due("no heap, no room", x.reason(4, 0, 0), 1);
        x.tilt(4, 19);
        x.pour(4, 0, 0, 1);
        due("too flat, no room", x.reason(4, 0, 0), 2);
        x.tilt(4, 20);
        due("no room", x.reason(4, 0, 0), 3);
        told("reason(4, 7, 3)", y -> y.reason(4, 7, 3), 1);
        told("reason(2, 0, 1)", y -> y.reason(2, 0, 1), 2);
        told("reason(0, 5, 2)", y -> y.reason(0, 5, 2), 3);
        told("reason(0, 6, 2)", y -> y.reason(0, 6, 2), 0);
        reasonsWithRoom();
    }

    private static void reasonsWithRoom() {
        TiltBoards x = new TiltBoards();
        x.pour(4, 0, 0, 1);
        x.tilt(4, 19);
        due("too flat", x.reason(4, 0, 0), 2);
        x.tilt(4, 20);
        due("it slides", x.reason(4, 0, 0), 0);
        x.pour(4, 1, 3, 98);
        due("with room for one it slides", x.reason(4, 0, 0), 0);
        x.pour(4, 1, 0, 1);
        due("no room", x.reason(4, 0, 0), 3);
        x.pour(4, 7, 0, 99);
        x.tilt(4, 28);
        due("too flat on the cell 7", x.reason(4, 7, 0), 2);
        x.tilt(4, 29);
        due("the cell 7 needs no room", x.reason(4, 7, 0), 0);
    }

    // "NONE if none would with any angle up to 90"
    private static void leastAngleUpTo90() {
        for (int board : NO_BOARDS) {
            refused("leastAngle(" + board + ")", x -> x.leastAngle(board), UNKNOWN);
        }
        told("leastAngle(4) without sand", x -> x.leastAngle(4), NONE);
        told("leastAngle(1)", x -> x.leastAngle(1), 38);
        int[] boards = {0, 4};
        for (int board : boards) {
            TiltBoards x = new TiltBoards();
            x.set(1, 1);
            x.setGrip(2, 80);
            due("without sand", x.leastAngle(board), NONE);
            x.pour(board, 5, 2, 9);
            due("89", x.leastAngle(board), 89);
            x.pour(board, 5, 2, 1);
            due("90", x.leastAngle(board), 90);
            x.pour(board, 5, 2, 1);
            due("91", x.leastAngle(board), NONE);
            x.tilt(board, 90);
            due("reason()", x.reason(board, 5, 2), 2);
            x.setGrip(0, 0);
            x.set(1, 12);
            x.pour(board, 0, 0, 11);
            due("0", x.leastAngle(board), 0);
            x.pour(board, 0, 0, 1);
            due("1", x.leastAngle(board), 1);
        }
    }

    /** A heap without room would not slide with any angle; one more grain of room, and it would. */
    private static void leastAngleWithRoom() {
        for (int cell = 0; cell < 7; cell++) {
            TiltBoards x = new TiltBoards();
            x.set(1, 1);
            x.pour(0, cell, 0, 1);
            for (int below = cell + 1; below < 8; below++) {
                x.pour(0, below, 3, 99);
            }
            due("no room below the cell " + cell, x.leastAngle(0), NONE);
            TiltBoards y = new TiltBoards();
            y.set(1, 1);
            y.pour(0, cell, 0, 1);
            y.pour(0, cell + 1, 3, 98);
            for (int below = cell + 2; below < 8; below++) {
                y.pour(0, below, 3, 99);
            }
            due("room for one below the cell " + cell, y.leastAngle(0), 21);
        }
    }

    private static void leastAngleOfMovingHeaps() {
        TiltBoards x = new TiltBoards();
        x.set(1, 1);
        x.setGrip(0, 80);
        x.pour(0, 7, 0, 15);
        due("95", x.leastAngle(0), NONE);
        x.jolt(0);
        due("95 less 5", x.leastAngle(0), 90);
        x.pour(0, 7, 0, 1);
        due("96 less 5", x.leastAngle(0), NONE);
        x.set(0, 6);
        due("96 less 6", x.leastAngle(0), 90);
        x.pass(1);
        due("no longer moving", x.leastAngle(0), NONE);
        x.setGrip(0, 13);
        due("29", x.leastAngle(0), 29);
        x.set(0, 30);
        x.jolt(0);
        due("29 less 30", x.leastAngle(0), 0);
    }

    /** The kind 0 goes through room for one grain on the cell 7: a grain in a tick. */
    private static void makeSlow(TiltBoards x, int board, int grainsMore) {
        x.setGrip(3, 80);
        x.set(1, 99);
        x.pour(board, 7, 3, 98);
        x.pour(board, 6, 0, 99);
        x.pour(board, 5, 0, 99);
        x.pour(board, 4, 0, 99);
        if (grainsMore > 0) {
            x.pour(board, 3, 0, grainsMore);
        }
    }

    // "0 if it is"; "NONE if it is not within 300"
    private static void restsInUpTo300() {
        for (int board : NO_BOARDS) {
            refused("restsIn(" + board + ")", x -> x.restsIn(board), UNKNOWN);
        }
        told("restsIn(2)", x -> x.restsIn(2), 0);
        told("restsIn(4)", x -> x.restsIn(4), 0);
        int[] boards = {0, 4};
        for (int board : boards) {
            for (int more = 0; more <= 5; more++) {
                TiltBoards x = new TiltBoards();
                makeSlow(x, board, more);
                due("level", x.restsIn(board), 0);
                x.tilt(board, 50);
                due("with " + more + " grains more", x.restsIn(board), more <= 2 ? 298 + more : NONE);
                due("the other board", x.restsIn(4 - board), 0);
                x.pass(1);
                due("a tick later", x.restsIn(board), more <= 3 ? 297 + more : NONE);
                due("reckoned, not done", x.count(0), 1);
            }
        }
        TiltBoards x = new TiltBoards();
        x.pour(0, 7, 0, 9);
        x.tilt(0, 19);
        due("19 is too little", x.restsIn(0), 0);
        x.tilt(0, 20);
        due("20 is enough", x.restsIn(0), 1);
        due("as told", x.pass(1), 9);
        due("at rest", x.restsIn(0), 0);
        due("board(0, 7)", x.board(0, 7), 1);
    }

    private static void ifTiltedRefused() {
        int[] noTellings = {LEAST, -1, 4, MOST};
        for (int board : NO_BOARDS) {
            refused("ifTilted(" + board + ", 0, 0)", x -> x.ifTilted(board, 0, 0), UNKNOWN);
            refused("ifTilted(" + board + ", 91, 0)", x -> x.ifTilted(board, 91, 0), UNKNOWN);
            refused("ifTilted(" + board + ", 0, 4)", x -> x.ifTilted(board, 0, 4), UNKNOWN);
        }
        for (int angle : NO_ANGLES) {
            refused("ifTilted(0, " + angle + ", 0)", x -> x.ifTilted(0, angle, 0), BAD_VALUE);
            refused("ifTilted(4, " + angle + ", 3)", x -> x.ifTilted(4, angle, 3), BAD_VALUE);
        }
        for (int what : noTellings) {
            refused("ifTilted(0, 0, " + what + ")", x -> x.ifTilted(0, 0, what), BAD_VALUE);
            refused("ifTilted(4, 90, " + what + ")", x -> x.ifTilted(4, 90, what), BAD_VALUE);
        }
    }

    private static void ifTiltedAtItsEdges() {
        int[] boards = {0, 4};
        int[] angles = {0, 1, 24, 25, 26, 89, 90};
        for (int board : boards) {
            for (int angle : angles) {
                TiltBoards x = new TiltBoards();
                x.pour(board, 6, 0, 50);
                // 50 grains need 25; once they are moving, 48 of them need 19.
                int[] due = angle < 25 ? new int[] {0, 0, 0, 50} : new int[] {2, 46, 4, 0};
                for (int what = 0; what < 4; what++) {
                    due("ifTilted(, " + angle + ", " + what + ")", x.ifTilted(board, angle, what), due[what]);
                    due("on the other board", x.ifTilted(4 - board, angle, what), 0);
                }
                due("the angle stays", x.board(board, 0), 0);
                // A tilt brings what was told, and once it is so, a tilt to the same angle tells the same.
                x.tilt(board, angle);
                for (int what = 0; what < 4; what++) {
                    due("the angle that is", x.ifTilted(board, angle, what), due[what]);
                }
                due("fallen", x.pass(99), due[1]);
                due("dust", x.board(board, 4), due[2]);
                due("left", x.board(board, 1), due[3]);
                due("what has fallen does not count again", x.ifTilted(board, 90, 1), angle < 25 ? 46 : 0);
                due("what was lost does not count again", x.ifTilted(board, 90, 2), angle < 25 ? 4 : 0);
            }
        }
        told("ifTilted(2, 0, 0)", x -> x.ifTilted(2, 0, 0), 0);
        told("ifTilted(2, 90, 3)", x -> x.ifTilted(2, 90, 3), 0);
        told("ifTilted(2, 0, 3)", x -> x.ifTilted(2, 0, 3), 197);
        told("ifTilted(4, 90, 1)", x -> x.ifTilted(4, 90, 1), 0);
    }

    // "until the board is at rest, for 300 ticks at most"
    private static void ifTiltedFor300Ticks() {
        for (int more = 0; more <= 5; more++) {
            TiltBoards x = new TiltBoards();
            makeSlow(x, 4, more);
            int grains = 297 + more;
            due("ticks with " + more + " more", x.ifTilted(4, 50, 0), Math.min(grains + 1, 300));
            due("fallen with " + more + " more", x.ifTilted(4, 50, 1), Math.min(grains, 299));
            due("dust with " + more + " more", x.ifTilted(4, 50, 2), 0);
            due("left with " + more + " more", x.ifTilted(4, 50, 3), 98 + grains - Math.min(grains, 299));
        }
    }

    // "the angle, 0 if no grain lies there"; "NONE if there is none up to 90"
    private static void clearingAngleUpTo90() {
        for (int board : NO_BOARDS) {
            refused("clearingAngle(" + board + ")", x -> x.clearingAngle(board), UNKNOWN);
        }
        told("clearingAngle(4) without sand", x -> x.clearingAngle(4), 0);
        // The full cell needs 25 and 11 degrees for 99 grains by 9.
        told("clearingAngle(2)", x -> x.clearingAngle(2), 36);
        int[] boards = {0, 4};
        for (int board : boards) {
            TiltBoards x = new TiltBoards();
            x.set(1, 1);
            x.set(0, 0);
            x.setGrip(1, 80);
            due("without sand", x.clearingAngle(board), 0);
            x.pour(board, 7, 1, 9);
            due("89", x.clearingAngle(board), 89);
            x.pour(board, 7, 1, 1);
            due("90", x.clearingAngle(board), 90);
            x.pour(board, 7, 1, 1);
            due("91", x.clearingAngle(board), NONE);
            x.pour(board, 0, 0, 1);
            due("though another would go", x.clearingAngle(board), NONE);
            due("the other board", x.clearingAngle(4 - board), 0);
            x.tilt(board, 90);
            due("at 90", x.clearingAngle(board), NONE);
            x.set(0, 1);
            x.jolt(board);
            due("moving, 11 grains need 90", x.clearingAngle(board), 90);
        }
        TiltBoards x = new TiltBoards();
        x.setGrip(0, 0);
        x.pour(0, 0, 0, 9);
        due("0 with sand", x.clearingAngle(0), 0);
        due("left at 0", x.ifTilted(0, 0, 3), 0);
        x.pour(0, 0, 0, 1);
        due("1", x.clearingAngle(0), 1);
        due("left at 0", x.ifTilted(0, 0, 3), 10);
        due("left at 1", x.ifTilted(0, 1, 3), 0);
    }

    /**
     * From 34 to 38 degrees, the 98 grains of the kind 3 on the cell 7 stay until the grain of their kind
     * comes, which waits behind all of the kind 0: after that they are moving, and go. If it comes too
     * late for the 300 ticks, it takes 39 degrees, which need not wait for it.
     */
    private static void clearingAngleWithin300() {
        for (int grains = 1; grains <= 8; grains++) {
            TiltBoards x = new TiltBoards();
            x.setGrip(3, 30);
            x.pour(4, 7, 3, 98);
            x.pour(4, 6, 0, 99);
            x.pour(4, 5, 0, 99);
            x.pour(4, 4, 0, 95);
            x.pour(4, 3, 3, 1);
            x.pour(4, 2, 0, grains);
            due("ticks with " + grains, x.ifTilted(4, 34, 0), Math.min(295 + grains, 300));
            due("left with " + grains, x.ifTilted(4, 34, 3) > 0 ? 1 : 0, grains <= 5 ? 0 : 1);
            // At 33 they stay, with the one that came, and with what is still on its way then.
            due("left at 33", x.ifTilted(4, 33, 3), 99 + Math.max(0, grains - 6));
            due("left at 39", x.ifTilted(4, 39, 3), 0);
            due("clearingAngle(4) with " + grains, x.clearingAngle(4), grains <= 5 ? 34 : 39);
        }
    }

    private static void weighsRefused() {
        for (int kind : NO_KINDS) {
            refused("weighs(" + kind + ", 20, true)", x -> x.weighs(kind, 20, true), UNKNOWN);
            refused("weighs(" + kind + ", 20, false)", x -> x.weighs(kind, 20, false), UNKNOWN);
            refused("weighs(" + kind + ", 91, true)", x -> x.weighs(kind, 91, true), UNKNOWN);
            refused("weighs(" + kind + ", -1, false)", x -> x.weighs(kind, -1, false), UNKNOWN);
        }
        for (int angle : NO_ANGLES) {
            refused("weighs(0, " + angle + ", true)", x -> x.weighs(0, angle, true), BAD_VALUE);
            refused("weighs(3, " + angle + ", false)", x -> x.weighs(3, angle, false), BAD_VALUE);
        }
        refused("weighs(0, 0, true)", x -> x.weighs(0, 0, true), NONE);
        refused("weighs(3, 90, false)", x -> x.weighs(3, 90, false), NONE);
        told("weighs(1, 25, false)", x -> x.weighs(1, 25, false), 1);
        told("weighs(1, 25, true)", x -> x.weighs(1, 25, true), 8);
    }

    // "Returns the grains, 1 to 99; NONE if no number from 1 to 99 needs it"
    private static void weighsAtItsEdges() {
        int[] settings = {1, 2, 9, 10, 49, 50, 98, 99};
        int[] grips = {0, 1, 79, 80};
        for (int setting : settings) {
            for (int grip : grips) {
                TiltBoards x = new TiltBoards();
                x.set(1, setting);
                x.setGrip(3, grip);
                for (int angle = 0; angle <= 90; angle++) {
                    // The grains divided by the setting are the degrees beyond the grip.
                    int least = Math.max(1, (angle - grip) * setting);
                    int most = Math.min(99, (angle - grip) * setting + setting - 1);
                    boolean any = angle >= grip && least <= most;
                    String weighs = "weighs(3, " + angle + ") at " + setting + " and " + grip;
                    due(weighs + ", least", x.weighs(3, angle, false), any ? least : NONE);
                    due(weighs + ", most", x.weighs(3, angle, true), any ? most : NONE);
                }
            }
        }
        weighsAsHeapsNeed();
    }

    private static void weighsAsHeapsNeed() {
        TiltBoards x = new TiltBoards();
        x.set(1, 7);
        x.pour(0, 0, 0, 1);
        x.jolt(0);
        for (int grains = 1; grains <= 99; grains++) {
            // The heap of the kind 1 is not moving, the other one on its cell is.
            if (grains > 1) {
                x.pour(0, 0, 1, 1);
                int angle = x.needs(0, 0, 1);
                CHECKS.due("not less than the least", x.weighs(1, angle, false) <= grains);
                CHECKS.due("not more than the most", x.weighs(1, angle, true) >= grains);
            }
        }
        due("the setting 0 does not matter", x.weighs(0, 20, true), 6);
        x.set(0, 30);
        due("the setting 0 does not matter", x.weighs(0, 20, true), 6);
    }

    private static void countRefused() {
        int[] noTellings = {LEAST, -1, 12, MOST};
        for (int what : noTellings) {
            refused("count(" + what + ")", x -> x.count(what), BAD_VALUE);
        }
    }

    private static void countTold() {
        // Of 574 grains 189, 98 and 197 lie on three boards, 28 in a pan, 56 were emptied, 6 are dust.
        int[] busy = {2, 484, 28, 6, 574, 56, 4, 7, 9, 15, 4, 18};
        for (int i = 0; i < 12; i++) {
            int what = i;
            told("count(" + what + ")", x -> x.count(what), busy[what]);
        }
        TiltBoards x = new TiltBoards();
        Twins.busy(x);
        due("accounts add up", x.count(1) + x.count(2) + x.count(3) + x.count(5), x.count(4));
        TiltBoards y = new TiltBoards();
        for (int board = 0; board < 5; board++) {
            due("boards at rest", y.count(6), 5 - board);
            y.pour(board, 3, 0, 1);
            y.tilt(board, 20);
        }
        due("none at rest", y.count(6), 0);
        y.pass(5);
        due("all at rest", y.count(6), 5);
        due("in all pans", y.count(2), 5);
        for (int i = 0; i < 5; i++) {
            due("emptied so far", y.count(5), i);
            y.emptyPan(i);
        }
        due("emptied so far", y.count(5), 5);
        due("poured so far", y.count(4), 5);
    }
}
