/** Promises 1 to 8: a new object, and the acts on boards and sand. */
public final class BoardsTest {
    private static final Checks CHECKS = new Checks();

    private static void due(String call, int got, int want) {
        CHECKS.due(call, got, want);
    }

    public static void main(String[] args) {
        newObject();
        tilt();
        pour();
        jolt();
        emptyPan();
        setGrip();
        set();
        passTicks();
        passCountsAllPans();
        passBeyondTheLastTick();
        slideKindsByGrip();
        slideSameGripByNumber();
        slideIntoLittleRoom();
        slideFromFullToFull();
        slideIsReckonedAtTheMoment();
        dust();
        moving();
        pouringAndMoving();
        movingNeedsNoLessThanZero();
        CHECKS.end("BoardsTest");
    }

    private static void newObject() {
        TiltBoards x = new TiltBoards();
        for (int board = 0; board < 5; board++) {
            for (int what = 0; what < 7; what++) {
                due("new: board(" + board + ", " + what + ")", x.board(board, what), 0);
            }
            due("new: board(" + board + ", 7)", x.board(board, 7), 1);
            for (int kind = 0; kind < 4; kind++) {
                due("new: pan", x.pan(board, kind), 0);
                for (int cell = 0; cell < 8; cell++) {
                    due("new: grains", x.grains(board, cell, kind), 0);
                }
            }
        }
        for (int kind = 0; kind < 4; kind++) {
            due("new: grip of " + kind, x.kind(kind, 0), 20 + 5 * kind);
            due("new: poured of " + kind, x.kind(kind, 3), 0);
        }
        int[] counts = {0, 0, 0, 0, 0, 0, 5, 5, 10, 20, 0, 0};
        for (int what = 0; what < counts.length; what++) {
            due("new: count(" + what + ")", x.count(what), counts[what]);
        }
        due("new: undo()", x.undo(), TiltBoards.NONE);
        due("new: restore()", x.restore(), TiltBoards.NONE);
        due("new: stopped(0)", x.stopped(0), TiltBoards.NONE);
        due("new: stopped(1)", x.stopped(1), TiltBoards.NONE);
    }

    private static void tilt() {
        TiltBoards x = new TiltBoards();
        due("tilt(0, 0)", x.tilt(0, 0), TiltBoards.NONE);
        due("tilt(0, 90)", x.tilt(0, 90), 0);
        due("tilt(0, 90) again", x.tilt(0, 90), TiltBoards.NONE);
        due("tilt(0, 1)", x.tilt(0, 1), 90);
        due("tilt(4, 45)", x.tilt(4, 45), 0);
        due("tilt(5, 45)", x.tilt(5, 45), TiltBoards.UNKNOWN);
        due("tilt(5, 91)", x.tilt(5, 91), TiltBoards.UNKNOWN);
        due("tilt(0, 91)", x.tilt(0, 91), TiltBoards.BAD_VALUE);
        for (int wrong : Checks.WRONG) {
            due("tilt(" + wrong + ", 1)", x.tilt(wrong, 1), TiltBoards.UNKNOWN);
            due("tilt(0, " + wrong + ")", x.tilt(0, wrong), TiltBoards.BAD_VALUE);
        }
        due("angle of 0", x.board(0, 0), 1);
        due("angle of 1", x.board(1, 0), 0);
        due("angle of 4", x.board(4, 0), 45);
        due("only acts are recorded", x.count(10), 3);
        due("undo()", x.undo(), 2);
        due("angle of 4", x.board(4, 0), 0);
    }

    private static void pour() {
        TiltBoards x = new TiltBoards();
        due("pour(0, 0, 0, 1)", x.pour(0, 0, 0, 1), 1);
        due("pour(0, 0, 0, 2)", x.pour(0, 0, 0, 2), 3);
        due("pour(0, 0, 1, 95)", x.pour(0, 0, 1, 95), 95);
        due("pour(0, 0, 2, 2)", x.pour(0, 0, 2, 2), TiltBoards.FULL);
        due("pour(0, 0, 2, 1)", x.pour(0, 0, 2, 1), 1);
        due("pour(0, 0, 0, 1)", x.pour(0, 0, 0, 1), TiltBoards.FULL);
        due("pour(0, 0, 0, 0)", x.pour(0, 0, 0, 0), TiltBoards.BAD_VALUE);
        due("pour(0, 0, 0, 100)", x.pour(0, 0, 0, 100), TiltBoards.BAD_VALUE);
        due("pour(4, 7, 3, 99)", x.pour(4, 7, 3, 99), 99);
        due("pour(5, 0, 0, 0)", x.pour(5, 0, 0, 0), TiltBoards.UNKNOWN);
        due("pour(0, 8, 0, 0)", x.pour(0, 8, 0, 0), TiltBoards.UNKNOWN);
        due("pour(0, 0, 4, 0)", x.pour(0, 0, 4, 0), TiltBoards.UNKNOWN);
        for (int wrong : Checks.WRONG) {
            due("pour(" + wrong + ", 1, 1, 1)", x.pour(wrong, 1, 1, 1), TiltBoards.UNKNOWN);
            due("pour(1, " + wrong + ", 1, 1)", x.pour(1, wrong, 1, 1), TiltBoards.UNKNOWN);
            due("pour(1, 1, " + wrong + ", 1)", x.pour(1, 1, wrong, 1), TiltBoards.UNKNOWN);
            due("pour(1, 1, 1, " + wrong + ")", x.pour(1, 1, 1, wrong), TiltBoards.BAD_VALUE);
        }
        due("states", x.count(10), 4);
        due("poured", x.count(4), 198);
        due("grains(0, 0, 0)", x.grains(0, 0, 0), 3);
        due("a level board keeps its sand", x.pass(99), 0);
        due("grains(4, 7, 3)", x.grains(4, 7, 3), 99);
        due("poured grains aren't moving", x.board(0, 6), 0);
    }

    private static void jolt() {
        TiltBoards x = new TiltBoards();
        due("jolt(0) without sand", x.jolt(0), TiltBoards.NONE);
        due("jolt(5)", x.jolt(5), TiltBoards.UNKNOWN);
        for (int wrong : Checks.WRONG) {
            due("jolt(" + wrong + ")", x.jolt(wrong), TiltBoards.UNKNOWN);
        }
        due("states", x.count(10), 0);
        x.pour(0, 0, 0, 10);
        x.pour(0, 0, 1, 10);
        x.pour(0, 7, 1, 10);
        x.pour(4, 3, 3, 99);
        due("jolt(0)", x.jolt(0), 3);
        due("moving on 0", x.board(0, 6), 3);
        due("moving on 4", x.board(4, 6), 0);
        due("needs(0, 0, 0)", x.needs(0, 0, 0), 20 + 2 - 5);
        due("jolt(0) again is an act", x.jolt(0), 3);
        x.undo();
        due("moving on 0", x.board(0, 6), 3);
        x.undo();
        due("undone: moving on 0", x.board(0, 6), 0);
        x.pour(1, 0, 0, 1);
        due("jolt(1) with one grain", x.jolt(1), 1);
        due("moving on 1", x.board(1, 6), 1);
        due("needs(1, 0, 0)", x.needs(1, 0, 0), 15);
        x.tilt(1, 20);
        x.pass(1);
        due("one grain that came is moving", x.board(1, 6), 1);
        due("needs(1, 1, 0)", x.needs(1, 1, 0), 15);
        due("jolt(0)", x.jolt(0), 3);
        x.tilt(0, 17);
        due("it slides as it is moving", x.reason(0, 0, 0), 0);
        due("needs(0, 7, 1)", x.needs(0, 7, 1), 21);
        x.pass(1);
        due("the jolt holds for one tick", x.needs(0, 7, 1), 26);
        due("the heap came down", x.grains(0, 1, 0), 10);
        due("only what came is moving", x.board(0, 6), 1);
    }

    private static void emptyPan() {
        TiltBoards x = new TiltBoards();
        due("emptyPan(0)", x.emptyPan(0), TiltBoards.NONE);
        due("emptyPan(5)", x.emptyPan(5), TiltBoards.UNKNOWN);
        for (int wrong : Checks.WRONG) {
            due("emptyPan(" + wrong + ")", x.emptyPan(wrong), TiltBoards.UNKNOWN);
        }
        x.pour(4, 7, 0, 40);
        x.pour(4, 7, 3, 10);
        x.pour(3, 7, 3, 10);
        x.tilt(4, 90);
        x.tilt(3, 90);
        due("pass(1)", x.pass(1), 58);
        due("emptyPan(4)", x.emptyPan(4), 48);
        due("emptyPan(4) again", x.emptyPan(4), TiltBoards.NONE);
        due("pan(4, 0)", x.pan(4, 0), 0);
        due("pan(4, 3)", x.pan(4, 3), 0);
        due("pan(3, 3)", x.pan(3, 3), 10);
        due("what fell so far stays", x.board(4, 3), 48);
        due("emptied so far", x.count(5), 48);
        due("emptyPan(3)", x.emptyPan(3), 10);
        due("emptied so far", x.count(5), 58);
        x.undo();
        due("undone: emptied so far", x.count(5), 48);
        due("undone: pan(3, 3)", x.pan(3, 3), 10);
    }

    private static void setGrip() {
        TiltBoards x = new TiltBoards();
        due("setGrip(0, 20)", x.setGrip(0, 20), TiltBoards.NONE);
        due("setGrip(0, 80)", x.setGrip(0, 80), 20);
        due("setGrip(0, 0)", x.setGrip(0, 0), 80);
        due("setGrip(0, 1)", x.setGrip(0, 1), 0);
        due("setGrip(3, 7)", x.setGrip(3, 7), 35);
        due("setGrip(4, 81)", x.setGrip(4, 81), TiltBoards.UNKNOWN);
        due("setGrip(3, 81)", x.setGrip(3, 81), TiltBoards.BAD_VALUE);
        for (int wrong : Checks.WRONG) {
            due("setGrip(" + wrong + ", 1)", x.setGrip(wrong, 1), TiltBoards.UNKNOWN);
            due("setGrip(1, " + wrong + ")", x.setGrip(1, wrong), TiltBoards.BAD_VALUE);
        }
        due("grip of 0", x.kind(0, 0), 1);
        due("grip of 1", x.kind(1, 0), 25);
        due("grip of 3", x.kind(3, 0), 7);
        due("states", x.count(10), 4);
    }

    private static void set() {
        TiltBoards x = new TiltBoards();
        int[] first = {5, 10, 20};
        int[] least = {0, 1, 2};
        int[] most = {30, 99, 99};
        for (int which = 0; which < 3; which++) {
            String set = "set(" + which + ", ";
            due(set + "first)", x.set(which, first[which]), TiltBoards.NONE);
            due(set + "most)", x.set(which, most[which]), first[which]);
            due(set + "most + 1)", x.set(which, most[which] + 1), TiltBoards.BAD_VALUE);
            due(set + "least - 1)", x.set(which, least[which] - 1), TiltBoards.BAD_VALUE);
            due("setting " + which, x.count(7 + which), most[which]);
            due(set + "least)", x.set(which, least[which]), most[which]);
            due("setting " + which, x.count(7 + which), least[which]);
            for (int wrong : Checks.WRONG) {
                due(set + wrong + ")", x.set(which, wrong), TiltBoards.BAD_VALUE);
                due("set(" + wrong + ", 10)", x.set(wrong, 10), TiltBoards.UNKNOWN);
            }
        }
        due("set(3, 10)", x.set(3, 10), TiltBoards.UNKNOWN);
        due("set(3, -1)", x.set(3, -1), TiltBoards.UNKNOWN);
        due("states", x.count(10), 4);
    }

    private static void passTicks() {
        TiltBoards x = new TiltBoards();
        for (int wrong : Checks.WRONG) {
            due("pass(" + wrong + ")", x.pass(wrong), TiltBoards.BAD_VALUE);
        }
        due("pass(0)", x.pass(0), TiltBoards.BAD_VALUE);
        due("states", x.count(10), 0);
        due("pass(1)", x.pass(1), 0);
        due("pass(99)", x.pass(99), 0);
        due("tick", x.count(0), 100);
        due("states", x.count(10), 2);
        x.undo();
        due("tick after undo", x.count(0), 1);

        x.pour(0, 0, 0, 10);
        x.tilt(0, 20);
        due("21 are needed, the board has 20", x.pass(1), 0);
        due("grains(0, 0, 0)", x.grains(0, 0, 0), 10);
        x.tilt(0, 21);
        for (int cell = 0; cell < 7; cell++) {
            due("pass(1)", x.pass(1), 0);
            due("one cell further", x.grains(0, cell + 1, 0), 10);
            due("nothing behind", x.grains(0, cell, 0), 0);
        }
        due("pass(1) into the pan", x.pass(1), 10);
        due("pan(0, 0)", x.pan(0, 0), 10);
    }

    private static void passCountsAllPans() {
        TiltBoards x = new TiltBoards();
        x.pour(0, 7, 0, 9);
        x.pour(0, 6, 1, 9);
        x.pour(3, 7, 2, 9);
        x.tilt(0, 90);
        x.tilt(3, 90);
        due("pass(2) over two boards", x.pass(2), 27);
        due("pan(0, 0)", x.pan(0, 0), 9);
        due("pan(0, 1)", x.pan(0, 1), 9);
        due("pan(3, 2)", x.pan(3, 2), 9);
        due("pass(1) tells only its own", x.pass(1), 0);
    }

    private static void passBeyondTheLastTick() {
        TiltBoards x = new TiltBoards();
        Checks.typeAll(x, ".99;.99;.99;.99;.99;.99;.99;.99;.99;.99;.99;.99;.99;.99;.99");
        for (int i = 0; i < 67; i++) {
            due("15 times 99 ticks", x.perform(), 15);
        }
        due("tick", x.count(0), 99495);
        due("perform() beyond 99999", x.perform(), TiltBoards.NOT_POSSIBLE);
        due("the order that stopped", x.stopped(0), 5);
        due("its error", x.stopped(1), TiltBoards.FULL);
        due("tick is as it was", x.count(0), 99495);
        for (int i = 0; i < 5; i++) {
            due("pass(99)", x.pass(99), 0);
        }
        due("pass(10) beyond", x.pass(10), TiltBoards.FULL);
        due("pass(100) beyond", x.pass(100), TiltBoards.BAD_VALUE);
        due("pass(9) up to 99999", x.pass(9), 0);
        due("tick", x.count(0), 99999);
        due("pass(1) beyond", x.pass(1), TiltBoards.FULL);
        x.pour(0, 0, 0, 9);
        x.tilt(0, 90);
        due("what would be has no last tick", x.restsIn(0), 8);
    }

    private static void slideKindsByGrip() {
        TiltBoards x = new TiltBoards();
        x.setGrip(3, 0);
        x.setGrip(2, 1);
        x.setGrip(1, 2);
        x.setGrip(0, 3);
        x.set(1, 99);
        x.set(2, 99);
        for (int kind = 0; kind < 4; kind++) {
            x.pour(0, 6, kind, 10);
        }
        x.pour(0, 7, 3, 75);
        x.setGrip(3, 0);
        x.tilt(0, 3);
        x.setGrip(3, 80);
        // The cell 7 keeps its 75 grains of the kind 3, so there is room for 24.
        x.pass(1);
        due("kind 2 slides first", x.grains(0, 7, 2), 10);
        due("kind 1 slides next", x.grains(0, 7, 1), 10);
        due("kind 0 has the room that is left", x.grains(0, 7, 0), 4);
        due("the rest stays", x.grains(0, 6, 0), 6);
        due("kind 3 needs too much", x.grains(0, 6, 3), 10);
    }

    private static void slideSameGripByNumber() {
        TiltBoards x = new TiltBoards();
        for (int kind = 0; kind < 3; kind++) {
            x.setGrip(kind, 7);
            x.pour(0, 2, 2 - kind, 10);
        }
        x.pour(0, 3, 3, 84);
        x.tilt(0, 12);
        x.pass(1);
        due("kind 0 goes whole", x.grains(0, 3, 0), 10);
        due("kind 1 goes in part", x.grains(0, 3, 1), 5);
        due("kind 1 stays in part", x.grains(0, 2, 1), 5);
        due("kind 2 stays", x.grains(0, 2, 2), 10);
        due("kind 2 finds no room", x.reason(0, 2, 2), 3);
    }

    private static void slideIntoLittleRoom() {
        TiltBoards x = new TiltBoards();
        x.set(0, 0);
        x.set(2, 2);
        x.pour(0, 0, 0, 50);
        x.pour(0, 1, 3, 90);
        x.tilt(0, 25);
        x.pass(1);
        due("as many go as have room", x.grains(0, 0, 0), 41);
        due("half of the nine is dust, rounded down", x.grains(0, 1, 0), 5);
        due("dust", x.board(0, 4), 4);
        due("the room that dust leaves is used", x.reason(0, 0, 0), 0);
        x.pass(1);
        due("the next four", x.grains(0, 0, 0), 37);
        due("two of them are dust", x.grains(0, 1, 0), 7);
        due("dust", x.board(0, 4), 6);
    }

    private static void slideFromFullToFull() {
        TiltBoards x = new TiltBoards();
        x.set(2, 99);
        x.set(1, 99);
        x.pour(0, 6, 0, 98);
        x.pour(0, 7, 0, 98);
        x.pour(0, 7, 3, 1);
        x.tilt(0, 21);
        due("no room below now", x.reason(0, 6, 0), 3);
        due("pass(1)", x.pass(1), 98);
        due("the cell 7 went first, so there was room", x.grains(0, 7, 0), 98);
        due("nothing is left above", x.grains(0, 6, 0), 0);
    }

    private static void slideIsReckonedAtTheMoment() {
        TiltBoards x = new TiltBoards();
        x.pour(0, 0, 0, 20);
        x.pour(0, 0, 1, 9);
        x.tilt(0, 25);
        due("kind 1 needs 27 now", x.reason(0, 0, 1), 2);
        x.pass(1);
        due("once kind 0 is gone it needs 25", x.grains(0, 1, 1), 9);
        due("kind 0 went too", x.grains(0, 1, 0), 19);

        TiltBoards y = new TiltBoards();
        y.pour(0, 0, 0, 9);
        y.pour(0, 1, 0, 9);
        y.tilt(0, 20);
        y.pass(1);
        due("each went one cell", y.grains(0, 1, 0), 9);
        due("each went one cell", y.grains(0, 2, 0), 9);
        due("both are moving", y.board(0, 6), 2);
    }

    private static void dust() {
        TiltBoards x = new TiltBoards();
        x.setGrip(0, 0);
        x.tilt(0, 90);
        x.pour(0, 7, 0, 39);
        due("one of 20 full is lost", x.pass(1), 38);
        x.pour(0, 7, 0, 40);
        due("two of 40 are lost", x.pass(1), 38);
        x.pour(0, 7, 0, 19);
        due("none of 19 is lost", x.pass(1), 19);
        due("dust so far", x.board(0, 4), 3);
        x.pour(0, 7, 0, 10);
        x.pour(0, 7, 1, 10);
        due("kinds are lost by themselves", x.pass(1), 20);
        x.set(2, 2);
        x.pour(0, 7, 0, 1);
        due("one grain is never dust", x.pass(1), 1);
        x.pour(0, 7, 0, 99);
        due("49 of 99 are lost", x.pass(1), 50);
        due("dust so far", x.board(0, 4), 52);
        due("dust so far in all", x.count(3), 52);
    }

    private static void moving() {
        TiltBoards x = new TiltBoards();
        x.pour(0, 0, 0, 10);
        x.pour(0, 1, 0, 15);
        x.tilt(0, 21);
        x.pass(1);
        // On the cell 1: 15 that lay there needed 21 too, so they went on, and 10 came.
        due("ten came", x.grains(0, 1, 0), 10);
        x.tilt(0, 15);
        due("a moving heap needs 5 less", x.needs(0, 1, 0), 16);
        x.pass(1);
        due("it stopped", x.grains(0, 1, 0), 10);
        due("once it rests it needs more", x.needs(0, 1, 0), 21);
        due("none is moving", x.board(0, 6), 0);
        x.pour(0, 0, 0, 3);
        x.tilt(0, 20);
        x.pass(1);
        due("grains that come make the whole heap moving", x.needs(0, 1, 0), 20 + 1 - 5);
        x.pass(1);
        due("so all of it went, to the 15 that rest", x.grains(0, 2, 0), 28);
        due("they are moving with it", x.needs(0, 2, 0), 17);
        x.jolt(0);
        due("a jolt adds nothing to what is moving", x.needs(0, 2, 0), 17);
    }

    private static void pouringAndMoving() {
        TiltBoards x = new TiltBoards();
        x.pour(0, 0, 0, 10);
        x.jolt(0);
        x.pour(0, 0, 0, 10);
        due("poured onto a moving heap: it is moving", x.needs(0, 0, 0), 17);
        x.pour(0, 0, 1, 10);
        due("a heap poured after the jolt isn't", x.needs(0, 0, 1), 28);
        x.pour(0, 1, 0, 10);
        due("nor one on another cell", x.needs(0, 1, 0), 21);
        due("moving", x.board(0, 6), 1);
        x.tilt(1, 3);
        x.set(0, 6);
        x.setGrip(2, 31);
        due("other acts leave it moving", x.board(0, 6), 1);
        x.pass(1);
        due("a tick lets it rest", x.board(0, 6), 0);
    }

    private static void movingNeedsNoLessThanZero() {
        TiltBoards x = new TiltBoards();
        x.set(0, 30);
        x.pour(0, 7, 0, 99);
        x.jolt(0);
        due("needs(0, 7, 0)", x.needs(0, 7, 0), 0);
        due("it slides on a level board", x.reason(0, 7, 0), 0);
        x.setGrip(0, 22);
        due("needs(0, 7, 0)", x.needs(0, 7, 0), 1);
        x.undo();
        due("pass(1)", x.pass(1), 95);
    }
}
