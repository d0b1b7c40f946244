/**
 * The terms of boards, sand, sliding and settings at their edges: each sentence of the document that
 * names one has a test of its own, with the sentence above it.
 */
public final class EdgesOfTermsTest {
    private static final Checks CHECKS = new Checks();

    private static void due(String call, int got, int want) {
        CHECKS.due(call, got, want);
    }

    public static void main(String[] args) {
        lastOf512Calls();
        cellsOneBelowTheOther();
        firstGrips();
        noCellBeyond99();
        panHasRoomForAll();
        degreesRoundedDown();
        lessMovingButAtLeastZero();
        asGreatOrGreater();
        roomBelow();
        lastCellNeedsNoRoom();
        boardsByThemselves();
        fromTheLastCellUp();
        kindsByGrips();
        asManyAsThereIsRoomFor();
        allFromTheLastCell();
        dustForEachFullSetting();
        dustOnTheWayAndIntoThePan();
        oneCellInATick();
        neededAtThatMoment();
        movingInTheTickAfterGrainsCame();
        movingWhatCameInPart();
        movingAfterAJolt();
        joltedInTheTickAhead();
        pouredOntoMovingAndResting();
        atRest();
        CHECKS.end("EdgesOfTermsTest");
    }

    // "An object is used for at most 512 calls after it has been made"
    private static void lastOf512Calls() {
        TiltBoards x = new TiltBoards();
        for (int call = 1; call <= 511; call++) {
            due("call " + call, x.tilt(4, call % 91), (call - 1) % 91);
        }
        due("call 512", x.undo(), 3);
        TiltBoards y = new TiltBoards();
        y.pour(0, 0, 0, 1);
        for (int call = 2; call <= 511; call++) {
            due("call " + call, y.pass(99), 0);
        }
        due("call 512", y.count(0), 510 * 99);
    }

    // "8 cells, 0 to 7, one below the other: the cell 0 is uppermost"; "Below the cell 7 there is the pan"
    private static void cellsOneBelowTheOther() {
        for (int board = 0; board < 5; board++) {
            TiltBoards x = new TiltBoards();
            x.pour(board, 0, 1, 5);
            for (int each = 0; each < 5; each++) {
                x.tilt(each, 90);
            }
            for (int cell = 1; cell < 8; cell++) {
                due("none has fallen", x.pass(1), 0);
                due("on the cell " + cell, x.grains(board, cell, 1), 5);
            }
            due("into the pan", x.pass(1), 5);
            due("of its own board", x.pan(board, 1), 5);
            due("all are there", x.count(2), 5);
            due("none on any cell", x.count(1), 0);
        }
    }

    // "each with a grip (0 to 80; 20 and 5 times its number at first)"
    private static void firstGrips() {
        TiltBoards x = new TiltBoards();
        for (int kind = 0; kind < 4; kind++) {
            due("grip", x.kind(kind, 0), 20 + 5 * kind);
            x.pour(kind, 7, kind, 1);
            due("needs()", x.needs(kind, 7, kind), 20 + 5 * kind);
        }
    }

    // "at most 99 grains lie on a cell"
    private static void noCellBeyond99() {
        TiltBoards x = new TiltBoards();
        x.set(2, 99);
        for (int cell = 0; cell < 8; cell++) {
            due("pour(0, cell, 0, 50)", x.pour(0, cell, 0, 50), 50);
            due("pour(0, cell, 3, 49)", x.pour(0, cell, 3, 49), 49);
        }
        x.tilt(0, 29);
        int grains = 792;
        for (int tick = 0; tick < 20; tick++) {
            grains -= x.pass(1);
            due("none is lost", x.board(0, 1), grains);
            for (int cell = 0; cell < 8; cell++) {
                int lying = x.grains(0, cell, 0) + x.grains(0, cell, 3);
                CHECKS.due("not more than 99 on the cell " + cell, lying <= 99);
            }
        }
    }

    // "the pan of the board, with room for all"
    private static void panHasRoomForAll() {
        TiltBoards x = new TiltBoards();
        x.set(2, 99);
        x.tilt(0, 90);
        Checks.typeAll(x, "p070*98;.1;p073*98;.1;p070*98;.1;p073*98;.1;p070*98;.1");
        for (int i = 0; i < 400; i++) {
            due("perform()", x.perform(), 10);
        }
        due("in the pan", x.board(0, 2), 400 * 5 * 98);
        due("of the kind 0", x.pan(0, 0), 400 * 3 * 98);
        due("of the kind 3", x.kind(3, 2), 400 * 2 * 98);
        due("fallen so far", x.board(0, 3), 400 * 5 * 98);
        due("poured of the kind 0", x.kind(0, 3), 400 * 3 * 98);
        due("in all pans", x.count(2), 400 * 5 * 98);
        due("emptyPan()", x.emptyPan(0), 400 * 5 * 98);
        due("emptied", x.count(5), 400 * 5 * 98);
    }

    // "the grip of its kind, and all grains on its cell divided by the setting 1, rounded down"
    private static void degreesRoundedDown() {
        int[] settings = {1, 2, 10, 49, 50, 98, 99};
        for (int setting : settings) {
            TiltBoards x = new TiltBoards();
            x.set(1, setting);
            int degrees = 0;
            for (int grains = 1; grains <= 99; grains++) {
                x.pour(0, 2, grains % 2 * 3, 1);
                if (grains % setting == 0) {
                    degrees++;
                }
                due(grains + " grains at " + setting, x.needs(0, 2, 3), 35 + degrees);
            }
            due("the other kind", x.needs(0, 2, 0), 20 + 99 / setting);
        }
    }

    // "if the heap is moving, it is less by the setting 0, but at least 0"
    private static void lessMovingButAtLeastZero() {
        for (int grip = 0; grip <= 32; grip++) {
            TiltBoards x = new TiltBoards();
            x.setGrip(0, grip);
            x.set(1, 99);
            x.pour(0, 0, 0, 98);
            int[] settings = {0, 1, 29, 30};
            for (int setting : settings) {
                x.set(0, setting);
                due("resting", x.needs(0, 0, 0), grip);
            }
            x.jolt(0);
            for (int setting : settings) {
                x.set(0, setting);
                due("moving", x.needs(0, 0, 0), grip > setting ? grip - setting : 0);
            }
        }
        TiltBoards x = new TiltBoards();
        x.setGrip(0, 25);
        x.pour(0, 7, 0, 49);
        x.set(0, 30);
        x.jolt(0);
        due("29 less 30 is 0", x.needs(0, 7, 0), 0);
        due("a level board has 0", x.reason(0, 7, 0), 0);
        x.pour(0, 7, 0, 1);
        due("30 less 30 is 0", x.reason(0, 7, 0), 0);
        x.pour(0, 7, 0, 10);
        due("31 less 30 is 1", x.reason(0, 7, 0), 2);
        due("it stays", x.pass(1), 0);
    }

    // "A heap slides if the angle of the board is as great as it needs, or greater"
    private static void asGreatOrGreater() {
        int[] angles = {0, 24, 25, 26, 90};
        for (int angle : angles) {
            TiltBoards x = new TiltBoards();
            x.pour(0, 3, 0, 50);
            x.tilt(0, angle);
            due("reason() at " + angle, x.reason(0, 3, 0), angle >= 25 ? 0 : 2);
            x.pass(1);
            due("still there at " + angle, x.grains(0, 3, 0), angle >= 25 ? 0 : 50);
        }
        TiltBoards x = new TiltBoards();
        x.setGrip(0, 0);
        x.pour(0, 7, 0, 9);
        due("0 is as great as 0", x.pass(1), 9);
        x.setGrip(0, 80);
        x.pour(0, 7, 0, 99);
        x.set(1, 9);
        x.tilt(0, 90);
        due("90 is less than 91", x.pass(1), 0);
        x.set(1, 10);
        due("90 is more than 89", x.pass(1), 95);
    }

    // "or there is room on the cell below"
    private static void roomBelow() {
        for (int cell = 0; cell < 7; cell++) {
            TiltBoards x = new TiltBoards();
            x.setGrip(3, 80);
            x.tilt(0, 40);
            x.pour(0, cell, 0, 9);
            x.pour(0, cell + 1, 3, 98);
            due("room for one below the cell " + cell, x.reason(0, cell, 0), 0);
            x.pour(0, cell + 1, 0, 1);
            due("what slides from below makes room only then", x.reason(0, cell, 0), 3);
            x.undo();
            x.pour(0, cell + 1, 3, 1);
            due("no room below the cell " + cell, x.reason(0, cell, 0), 3);
            x.pass(1);
            due("so nothing slides", x.grains(0, cell, 0), 9);
            x.undo();
            x.undo();
            x.pass(1);
            due("with room for one, one slides", x.grains(0, cell, 0), 8);
            due("it came", x.grains(0, cell + 1, 0), 1);
        }
    }

    // "its cell is the cell 7"
    private static void lastCellNeedsNoRoom() {
        TiltBoards x = new TiltBoards();
        x.tilt(0, 90);
        for (int i = 0; i < 3; i++) {
            x.pour(0, 7, 0, 99);
            due("the cell 7 always slides", x.reason(0, 7, 0), 0);
            due("all of it", x.pass(1), 95);
        }
        due("the pan has more than a cell can", x.pan(0, 0), 285);
        // A full cell 0 of the next board is not below it.
        x.pour(1, 0, 3, 99);
        x.pour(0, 7, 0, 9);
        due("the cell 7 of the board 0", x.reason(0, 7, 0), 0);
        due("it slides into the pan", x.pass(1), 9);
        due("the board 1 is as it was", x.board(1, 1), 99);
    }

    // "In a tick each board is looked at by itself"
    private static void boardsByThemselves() {
        TiltBoards x = new TiltBoards();
        for (int board = 0; board < 5; board++) {
            x.pour(board, 7, 0, 9);
            x.pour(board, 0, 0, 9);
        }
        x.tilt(1, 20);
        x.tilt(3, 19);
        x.jolt(4);
        due("only the board 1 is tilted enough", x.pass(1), 9);
        for (int board = 0; board < 5; board++) {
            due("cell 7", x.grains(board, 7, 0), board == 1 ? 0 : 9);
            due("cell 0", x.grains(board, 0, 0), board == 1 ? 0 : 9);
            due("moving", x.board(board, 6), board == 1 ? 1 : 0);
        }
    }

    // "from its cell 7 up to its cell 0"
    private static void fromTheLastCellUp() {
        TiltBoards x = new TiltBoards();
        x.set(1, 99);
        x.set(2, 99);
        for (int cell = 0; cell < 8; cell++) {
            x.pour(0, cell, 0, 98);
            x.pour(0, cell, 1, 1);
        }
        x.tilt(0, 26);
        for (int cell = 0; cell < 7; cell++) {
            due("no room now below " + cell, x.reason(0, cell, 0), 3);
        }
        due("reason of the cell 7", x.reason(0, 7, 0), 0);
        due("the cell 7 goes, and so makes room for all", x.pass(1), 99);
        for (int cell = 1; cell < 8; cell++) {
            due("98 came to " + cell, x.grains(0, cell, 0), 98);
            due("1 came to " + cell, x.grains(0, cell, 1), 1);
        }
        due("the cell 0 is empty", x.grains(0, 0, 0) + x.grains(0, 0, 1), 0);
    }

    // "on each cell the kinds by rising grips, of the same grip by numbers"
    private static void kindsByGrips() {
        for (int first = 0; first < 4; first++) {
            for (int second = 0; second < 4; second++) {
                if (first != second) {
                    kindsOfGrips(first, 10, second, 11, first);
                    kindsOfGrips(first, 11, second, 10, second);
                    kindsOfGrips(first, 11, second, 11, Math.min(first, second));
                    kindsOfGrips(first, 0, second, 80, first);
                }
            }
        }
        allKindsByGrips();
    }

    /** All four kinds meet room for 24 grains: what has it, has it by the grips as they are now. */
    private static void allKindsByGrips() {
        TiltBoards x = new TiltBoards();
        x.set(1, 1);
        int[] rising = {2, 0, 3, 1};
        for (int i = 0; i < 4; i++) {
            x.setGrip(rising[i], 10 + i);
            x.pour(0, 5, i, 10);
        }
        // The 75 grains below need 88 and more, so they stay at 60; the 40 above need 53 at most.
        x.pour(0, 6, 1, 75);
        x.tilt(0, 60);
        x.pass(1);
        due("the kind 2 goes first", x.grains(0, 6, 2), 10);
        due("then the kind 0", x.grains(0, 6, 0), 10);
        due("the kind 3 has the room that is left", x.grains(0, 6, 3), 4);
        due("the kind 1 has none", x.grains(0, 6, 1), 75);
        due("6 of the kind 3 stay", x.grains(0, 5, 3), 6);
        due("10 of the kind 1 stay", x.grains(0, 5, 1), 10);
    }

    /** Two heaps meet room for one grain: the one that is looked at first has it. */
    private static void kindsOfGrips(int one, int gripOfOne, int other, int gripOfOther, int first) {
        for (int cell = 0; cell < 7; cell++) {
            TiltBoards x = new TiltBoards();
            x.set(1, 99);
            x.setGrip(one, gripOfOne);
            x.setGrip(other, gripOfOther);
            x.pour(0, cell, other, 2);
            x.pour(0, cell, one, 2);
            int blocker = 0;
            while (blocker == one || blocker == other) {
                blocker++;
            }
            x.setGrip(blocker, 79);
            x.pour(0, cell + 1, blocker, 98);
            // The room stays closed at 78 for the blocker, which needs 79.
            x.tilt(0, 78);
            x.pass(1);
            boolean bothSlide = gripOfOne <= 78 && gripOfOther <= 78;
            due("the kind " + first + " slid", x.grains(0, cell + 1, first), 1);
            due("one alone slid", x.grains(0, cell + 1, one + other - first), 0);
            due("the other", x.reason(0, cell, one + other - first), bothSlide ? 3 : 2);
        }
    }

    // "A heap that slides then loses as many grains as there is room for on the cell below"
    private static void asManyAsThereIsRoomFor() {
        for (int room = 0; room <= 99; room++) {
            TiltBoards x = new TiltBoards();
            x.set(1, 99);
            x.set(2, 99);
            x.pour(0, 4, 0, 50);
            if (room < 99) {
                x.pour(0, 5, 3, 99 - room);
            }
            x.tilt(0, 30);
            x.pass(1);
            int goes = Math.min(room, 50);
            due("left with room for " + room, x.grains(0, 4, 0), 50 - goes);
            due("came with room for " + room, x.grains(0, 5, 0), goes);
        }
    }

    // "(all of them from the cell 7)"
    private static void allFromTheLastCell() {
        for (int grains = 1; grains <= 99; grains++) {
            TiltBoards x = new TiltBoards();
            x.tilt(0, 90);
            x.pour(0, 7, 2, grains);
            due("all of " + grains, x.pass(1), grains - grains / 20);
            due("none is left", x.board(0, 1), 0);
        }
        TiltBoards x = new TiltBoards();
        for (int kind = 0; kind < 4; kind++) {
            x.pour(0, 7, kind, 24);
        }
        x.tilt(0, 90);
        due("all kinds of them", x.pass(1), 92);
    }

    // "Of these one for each full setting 2 is dust"
    private static void dustForEachFullSetting() {
        int[] settings = {2, 3, 20, 49, 50, 98, 99};
        for (int setting : settings) {
            int lost = 0;
            for (int grains = 1; grains <= 99; grains++) {
                TiltBoards x = new TiltBoards();
                x.set(2, setting);
                x.pour(0, 3, 0, grains);
                x.tilt(0, 90);
                if (grains % setting == 0) {
                    lost++;
                }
                x.pass(1);
                due("dust of " + grains + " at " + setting, x.board(0, 4), lost);
                due("the others", x.grains(0, 4, 0), grains - lost);
                due("all dust", x.count(3), lost);
            }
        }
    }

    // "the others come to the cell below, or into the pan"
    private static void dustOnTheWayAndIntoThePan() {
        TiltBoards x = new TiltBoards();
        x.set(2, 2);
        x.pour(0, 5, 0, 8);
        x.tilt(0, 90);
        x.pass(1);
        due("4 of 8", x.grains(0, 6, 0), 4);
        x.pass(1);
        due("2 of 4", x.grains(0, 7, 0), 2);
        due("1 of 2 into the pan", x.pass(1), 1);
        due("dust", x.board(0, 4), 7);
        due("dust is not in the pan", x.pan(0, 0), 1);
        due("nor has it fallen there", x.board(0, 3), 1);
        // Each heap is reckoned by itself: 19 and 19 are no 20.
        TiltBoards y = new TiltBoards();
        y.pour(1, 7, 0, 19);
        y.pour(1, 7, 1, 19);
        y.pour(1, 6, 1, 19);
        y.tilt(1, 90);
        y.pass(1);
        due("no dust", y.board(1, 4), 0);
        due("19 came", y.grains(1, 7, 1), 19);
        y.pass(1);
        due("no dust", y.board(1, 4), 0);
        due("all in the pan", y.board(1, 2), 57);
    }

    // "So sand goes at most one cell in a tick"
    private static void oneCellInATick() {
        TiltBoards x = new TiltBoards();
        for (int cell = 0; cell < 8; cell++) {
            x.pour(0, cell, 0, cell + 1);
        }
        x.tilt(0, 90);
        due("the cell 7 alone falls", x.pass(1), 8);
        for (int cell = 1; cell < 8; cell++) {
            due("each came one cell down to " + cell, x.grains(0, cell, 0), cell);
        }
        due("nothing on the cell 0", x.grains(0, 0, 0), 0);
    }

    // "what is needed is reckoned by the grains as they lie there at that moment"
    private static void neededAtThatMoment() {
        // 10 grains of the kind 0 leave 9 of the kind 1, which then needs 25 and no 26.
        int[] angles = {24, 25};
        for (int angle : angles) {
            TiltBoards x = new TiltBoards();
            x.pour(0, 3, 0, 10);
            x.pour(0, 3, 1, 9);
            x.tilt(0, angle);
            due("the kind 1 does not slide now", x.reason(0, 3, 1), 2);
            x.pass(1);
            due("at " + angle, x.grains(0, 4, 1), angle == 25 ? 9 : 0);
        }
        // What comes to a cell in a tick was not there as the cell was looked at.
        TiltBoards x = new TiltBoards();
        x.pour(0, 6, 1, 9);
        x.pour(0, 5, 0, 9);
        x.tilt(0, 25);
        x.pass(1);
        due("9 alone need 25", x.grains(0, 7, 1), 9);
        // The room is that of the moment: what slid ahead has taken some.
        TiltBoards y = new TiltBoards();
        y.pour(0, 6, 0, 9);
        y.pour(0, 6, 1, 9);
        y.pour(0, 7, 3, 81);
        y.tilt(0, 27);
        y.pass(1);
        due("18 have room for 18", y.board(0, 1) - y.grains(0, 7, 0) - y.grains(0, 7, 1), 81);
        due("the cell 6 is empty", y.grains(0, 6, 0) + y.grains(0, 6, 1), 0);
    }

    // "A heap is moving in a tick if any grains of its kind came to its cell from above in the tick ahead"
    private static void movingInTheTickAfterGrainsCame() {
        TiltBoards x = new TiltBoards();
        x.pour(0, 2, 0, 1);
        x.pour(0, 3, 0, 8);
        x.pour(0, 3, 1, 30);
        x.tilt(0, 20);
        x.pass(1);
        due("one grain makes nine moving", x.needs(0, 3, 0), 20 + 3 - 5);
        due("not another kind", x.needs(0, 3, 1), 25 + 3);
        due("one heap is moving", x.board(0, 6), 1);
        x.tilt(0, 17);
        x.pass(1);
        due("two ticks later it is not", x.needs(0, 3, 0), 20 + 3);
        due("none is moving", x.board(0, 6), 0);

        TiltBoards y = new TiltBoards();
        y.pour(0, 2, 0, 1);
        y.pour(0, 3, 1, 20);
        y.tilt(0, 20);
        y.pass(1);
        y.tilt(0, 17);
        due("as great as a moving heap needs", y.reason(0, 3, 0), 0);
        y.tilt(0, 16);
        due("one less", y.reason(0, 3, 0), 2);
        due("nothing has come to the heap above", y.board(0, 6), 1);
    }

    /** What stays behind as there was little room is not moving, unless grains came to it. */
    private static void movingWhatCameInPart() {
        TiltBoards x = new TiltBoards();
        x.set(1, 99);
        x.pour(0, 3, 0, 40);
        x.jolt(0);
        x.pour(0, 4, 3, 97);
        x.tilt(0, 20);
        x.pass(1);
        due("38 stay", x.grains(0, 3, 0), 38);
        due("they are not moving", x.needs(0, 3, 0), 20);
        due("2 came: they are", x.needs(0, 4, 0), 20 + 1 - 5);
        due("one heap is moving", x.board(0, 6), 1);

        TiltBoards y = new TiltBoards();
        y.set(1, 99);
        y.pour(0, 2, 0, 5);
        y.pour(0, 3, 0, 40);
        y.pour(0, 4, 3, 97);
        y.tilt(0, 20);
        y.pass(1);
        due("38 stayed and 5 came", y.grains(0, 3, 0), 43);
        due("all of them are moving", y.needs(0, 3, 0), 15);
        due("two heaps are moving", y.board(0, 6), 2);
    }

    // "or if it lay there as the board was jolted since then"
    private static void movingAfterAJolt() {
        TiltBoards x = new TiltBoards();
        x.pour(0, 3, 0, 1);
        x.pour(1, 3, 0, 1);
        x.jolt(0);
        due("jolted", x.needs(0, 3, 0), 15);
        due("not another board", x.needs(1, 3, 0), 20);
        x.pour(0, 3, 1, 1);
        due("poured after the jolt", x.needs(0, 3, 1), 25);
        due("still one heap", x.board(0, 6), 1);
        x.jolt(0);
        due("jolted again, it lies there", x.needs(0, 3, 1), 20);
        due("two heaps", x.board(0, 6), 2);
        x.pass(1);
        due("the tick ends it", x.board(0, 6), 0);
        due("needs()", x.needs(0, 3, 0), 20);
    }

    /** The jolt of the tick ahead is over, though the heap slid or stayed. */
    private static void joltedInTheTickAhead() {
        TiltBoards x = new TiltBoards();
        x.pour(0, 7, 0, 9);
        x.tilt(0, 15);
        x.jolt(0);
        x.undo();
        due("an undone jolt is none", x.pass(1), 0);
        x.jolt(0);
        due("jolted, 15 is enough", x.pass(1), 9);
        x.pour(0, 7, 0, 9);
        due("poured where a jolted heap lay", x.needs(0, 7, 0), 20);
        due("it stays", x.pass(1), 0);
        x.tilt(0, 14);
        x.jolt(0);
        due("14 is too little", x.pass(1), 0);
        x.tilt(0, 15);
        due("and the jolt is over", x.pass(1), 0);
    }

    // "(Grains that are poured neither make a heap moving nor let it rest.)"
    private static void pouredOntoMovingAndResting() {
        TiltBoards x = new TiltBoards();
        x.pour(0, 0, 0, 9);
        x.pour(0, 0, 0, 9);
        due("poured onto a resting heap", x.needs(0, 0, 0), 21);
        due("none is moving", x.board(0, 6), 0);
        x.tilt(0, 21);
        x.pass(1);
        due("it came and is moving", x.needs(0, 1, 0), 16);
        x.pour(0, 1, 0, 81);
        due("still, with 81 grains more", x.needs(0, 1, 0), 20 + 9 - 5);
        due("one is moving", x.board(0, 6), 1);
        x.pour(0, 2, 0, 5);
        due("poured next to it", x.needs(0, 2, 0), 20);
        due("one is moving", x.board(0, 6), 1);
    }

    // "A board is at rest if no heap on it slides. (A heap that needs more, or finds no room, rests.)"
    private static void atRest() {
        TiltBoards x = new TiltBoards();
        x.tilt(0, 90);
        due("without sand", x.board(0, 7), 1);
        x.setGrip(3, 80);
        x.set(1, 9);
        x.pour(0, 7, 3, 99);
        due("it needs 91", x.board(0, 7), 1);
        x.pour(0, 6, 0, 50);
        due("and the other finds no room", x.board(0, 7), 1);
        due("boards at rest", x.count(6), 5);
        x.pour(0, 4, 0, 1);
        due("one grain with room", x.board(0, 7), 0);
        due("boards at rest", x.count(6), 4);
        x.undo();
        x.set(1, 10);
        due("now it needs 89", x.board(0, 7), 0);
        x.tilt(0, 89);
        due("89 is as great", x.board(0, 7), 0);
        x.tilt(0, 88);
        due("88 is not", x.board(0, 7), 1);
        x.jolt(0);
        due("a moving heap needs less", x.board(0, 7), 0);
        due("boards at rest", x.count(6), 4);
        atRestWithOneHeap();
    }

    /** One heap that slides is enough, wherever it lies. */
    private static void atRestWithOneHeap() {
        for (int place = 0; place < 160; place++) {
            int board = place / 32;
            int cell = place / 4 % 8;
            int kind = place % 4;
            TiltBoards x = new TiltBoards();
            x.pour(board, cell, kind, 1);
            x.tilt(board, 19 + 5 * kind);
            due("too flat at " + place, x.board(board, 7), 1);
            due("boards at rest", x.count(6), 5);
            x.tilt(board, 20 + 5 * kind);
            due("as great as needed at " + place, x.board(board, 7), 0);
            due("boards at rest", x.count(6), 4);
            due("restsIn()", x.restsIn(board), 8 - cell);
            due("leastAngle()", x.leastAngle(board), 20 + 5 * kind);
            due("clearingAngle()", x.clearingAngle(board), 20 + 5 * kind);
        }
    }
}
