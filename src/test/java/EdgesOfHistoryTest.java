import java.util.function.Consumer;

/**
 * Promises 13 to 15 and the terms of history at their edges: the empty history, the 4 states and one
 * more, the empty snapshot, and what is in a state and what is not.
 */
public final class EdgesOfHistoryTest {
    private static final Checks CHECKS = new Checks();
    private static final Twins TWINS = new Twins(CHECKS);
    private static final int NONE = TiltBoards.NONE;

    private static void due(String call, int got, int want) {
        CHECKS.due(call, got, want);
    }

    public static void main(String[] args) {
        undoWithoutStates();
        undoDownToNone();
        fourStatesAndOneMore();
        oldestDroppedByEachAct();
        refusedActsDropNothing();
        whatIsNoAct();
        undoBringsBackTheState();
        orderOfKindsGoesBack();
        undoIsNotUndone();
        restoreWithoutSnapshot();
        keepAtFirstAndInPlace();
        keepChangesNothingElse();
        restoreIsAnAct();
        restoreOfWhatIsSoAlready();
        snapshotStays();
        whatIsInNoState();
        CHECKS.end("EdgesOfHistoryTest");
    }

    // "NONE if the history is empty"
    private static void undoWithoutStates() {
        TWINS.unchanged("undo() of a new object", x -> { }, TiltBoards::undo, NONE);
        TWINS.unchanged("undo() once more", x -> {
            Twins.fewActs(x);
            x.undo();
            x.undo();
        }, TiltBoards::undo, NONE);
        TWINS.unchanged("undo() after all states of a full history", x -> {
            Twins.busy(x);
            for (int i = 0; i < 4; i++) {
                x.undo();
            }
        }, TiltBoards::undo, NONE);
    }

    // "Returns the number of states that are left"
    private static void undoDownToNone() {
        for (int acts = 1; acts <= 4; acts++) {
            TiltBoards x = new TiltBoards();
            for (int i = 1; i <= acts; i++) {
                x.pass(i);
            }
            for (int left = acts - 1; left >= 0; left--) {
                due("undo()", x.undo(), left);
                due("states", x.count(10), left);
                due("tick", x.count(0), left * (left + 1) / 2);
            }
            due("undo()", x.undo(), NONE);
            due("states", x.count(10), 0);
            due("tick", x.count(0), 0);
        }
    }

    // "A history of at most 4 states is kept; when one more is recorded, the oldest one is dropped"
    private static void fourStatesAndOneMore() {
        for (int acts = 3; acts <= 21; acts++) {
            TiltBoards x = new TiltBoards();
            for (int i = 1; i <= acts; i++) {
                due("setGrip()", x.setGrip(3, i), i == 1 ? 35 : i - 1);
                due("states", x.count(10), Math.min(i, 4));
            }
            int held = Math.min(acts, 4);
            for (int left = held - 1; left >= 0; left--) {
                due("undo()", x.undo(), left);
                int grip = acts - held + left;
                due("grip", x.kind(3, 0), grip == 0 ? 35 : grip);
            }
            due("no fifth", x.undo(), NONE);
        }
        // Undone states make room again.
        TiltBoards x = new TiltBoards();
        for (int i = 1; i <= 4; i++) {
            x.tilt(1, i);
        }
        x.undo();
        x.tilt(1, 50);
        due("four states", x.count(10), 4);
        int[] angles = {3, 2, 1, 0};
        for (int angle : angles) {
            x.undo();
            due("none was dropped", x.board(1, 0), angle);
        }
    }

    /** Each kind of act is the one more. */
    private static void oldestDroppedByEachAct() {
        for (int act = 0; act < 9; act++) {
            TiltBoards x = new TiltBoards();
            x.pour(0, 7, 0, 9);
            x.tilt(0, 90);
            x.pass(1);
            x.pour(0, 0, 0, 9);
            Checks.typeAll(x, "t4=9");
            x.keep();
            for (int i = 1; i <= 4; i++) {
                x.setGrip(3, i);
            }
            CHECKS.due("the act " + act + " is one", act(x, act) >= 0);
            due("states", x.count(10), 4);
            int[] grips = {4, 3, 2, 1};
            for (int grip : grips) {
                x.undo();
                due("grip after the act " + act, x.kind(3, 0), grip);
            }
            due("the oldest was dropped", x.undo(), NONE);
        }
    }

    private static int act(TiltBoards x, int act) {
        switch (act) {
            case 0:
                return x.tilt(0, 8);
            case 1:
                return x.pour(4, 0, 0, 1);
            case 2:
                return x.jolt(0);
            case 3:
                return x.emptyPan(0);
            case 4:
                return x.setGrip(0, 0);
            case 5:
                return x.set(0, 0);
            case 6:
                return x.pass(1);
            case 7:
                return x.perform();
            default:
                return x.restore();
        }
    }

    // "and returns no error and not NONE"
    private static void refusedActsDropNothing() {
        TiltBoards x = new TiltBoards();
        for (int i = 1; i <= 4; i++) {
            x.tilt(0, i);
        }
        x.tilt(5, 1);
        x.tilt(0, 91);
        x.tilt(0, 4);
        x.pour(5, 0, 0, 1);
        x.pour(0, 0, 0, 0);
        x.jolt(-1);
        x.jolt(0);
        x.emptyPan(-1);
        x.emptyPan(0);
        x.setGrip(4, 1);
        x.setGrip(0, 81);
        x.setGrip(0, 20);
        x.set(3, 1);
        x.set(0, 31);
        x.set(0, 5);
        x.pass(0);
        x.perform();
        x.restore();
        due("states", x.count(10), 4);
        int[] angles = {3, 2, 1, 0};
        for (int angle : angles) {
            x.undo();
            due("angle", x.board(0, 0), angle);
        }
        due("states", x.count(10), 0);
    }

    /** type(), clearText(), stopped(), undo() and keep() are not described as acts, nor what is told. */
    private static void whatIsNoAct() {
        TiltBoards x = new TiltBoards();
        x.pour(0, 0, 0, 9);
        due("keep()", x.keep(), 0);
        due("type()", x.type('j'), 1);
        due("clearText()", x.clearText(), 1);
        due("stopped()", x.stopped(0), NONE);
        due("restsIn()", x.restsIn(0), 0);
        due("ifTilted()", x.ifTilted(0, 90, 0), 8);
        due("clearingAngle()", x.clearingAngle(0), 20);
        due("leastAngle()", x.leastAngle(0), 20);
        due("weighs()", x.weighs(0, 20, true), 9);
        due("states", x.count(10), 1);
        due("undo()", x.undo(), 0);
        due("undo() is not recorded", x.undo(), NONE);
    }

    private static void undoBringsBackTheState() {
        Consumer<TiltBoards> made = Twins::fewActs;
        TWINS.sameStateAndHistory("two acts and two times undo()", made.andThen(x -> {
            x.pass(9);
            x.emptyPan(3);
            x.undo();
            x.undo();
        }), made);
        // The four acts drop all states that there were, so the histories differ, and nothing else.
        TWINS.sameState("four acts and four times undo()", x -> {
            Twins.busy(x);
            x.tilt(0, 90);
            x.pass(5);
            x.setGrip(1, 0);
            x.jolt(2);
            for (int i = 0; i < 4; i++) {
                x.undo();
            }
        }, Twins::busy);
    }

    /** Which kind slides first goes by the grips: with them it comes back. */
    private static void orderOfKindsGoesBack() {
        for (int way = 0; way < 3; way++) {
            TiltBoards x = new TiltBoards();
            x.pour(0, 6, 0, 2);
            x.pour(0, 6, 1, 2);
            x.pour(0, 7, 3, 98);
            x.tilt(0, 40);
            x.keep();
            x.setGrip(0, 30);
            if (way == 1) {
                x.undo();
            } else if (way == 2) {
                x.restore();
            }
            x.pass(1);
            due("the kind 0, way " + way, x.grains(0, 7, 0), way == 0 ? 0 : 1);
            due("the kind 1, way " + way, x.grains(0, 7, 1), way == 0 ? 1 : 0);
        }
    }

    // "Removes and restores the latest state of the history"
    private static void undoIsNotUndone() {
        TiltBoards x = new TiltBoards();
        x.tilt(0, 1);
        x.tilt(0, 2);
        due("undo()", x.undo(), 1);
        due("undo()", x.undo(), 0);
        due("angle", x.board(0, 0), 0);
        due("undo()", x.undo(), NONE);
        due("angle", x.board(0, 0), 0);
        x.tilt(0, 7);
        due("undo()", x.undo(), 0);
        due("angle", x.board(0, 0), 0);
    }

    // "There is one snapshot, empty at first"; "NONE if there is no snapshot"
    private static void restoreWithoutSnapshot() {
        TWINS.unchanged("restore() of a new object", x -> { }, TiltBoards::restore, NONE);
        Consumer<TiltBoards> made = x -> {
            x.pour(0, 0, 0, 9);
            x.tilt(0, 90);
            x.pass(3);
            x.undo();
            Checks.typeAll(x, "j0");
        };
        TWINS.unchanged("restore() without keep()", made, TiltBoards::restore, NONE);
    }

    // "Takes a snapshot of the state, in place of the one that was"
    private static void keepAtFirstAndInPlace() {
        TiltBoards x = new TiltBoards();
        due("keep()", x.keep(), 0);
        x.tilt(0, 9);
        x.pass(1);
        due("keep()", x.keep(), 1);
        x.tilt(0, 8);
        x.pass(2);
        due("restore()", x.restore(), 1);
        due("angle", x.board(0, 0), 9);
        x.pass(99);
        due("keep()", x.keep(), 100);
        due("restore()", x.restore(), 100);
        due("tick", x.count(0), 100);

        // A snapshot of what is as at first is one too.
        TiltBoards y = new TiltBoards();
        y.keep();
        due("restore()", y.restore(), 0);
        due("it is an act", y.count(10), 1);
    }

    private static void keepChangesNothingElse() {
        Consumer<TiltBoards> kept = x -> {
            Twins.busy(x);
            x.keep();
        };
        TWINS.unchanged("keep() once more", kept, TiltBoards::keep, 2);
        TiltBoards x = new TiltBoards();
        Twins.busy(x);
        int sand = x.count(1);
        due("keep()", x.keep(), 2);
        due("states", x.count(10), 4);
        due("text", x.count(11), 18);
        due("sand", x.count(1), sand);
        due("stop", x.stopped(0), 1);
    }

    // "Restores the state of the snapshot, which stays. This is an act."
    private static void restoreIsAnAct() {
        TiltBoards x = new TiltBoards();
        Twins.fewActs(x);
        due("restore()", x.restore(), 1);
        due("one state more", x.count(10), 3);
        Consumer<TiltBoards> made = Twins::fewActs;
        TWINS.different("restore()", made, made.andThen(TiltBoards::restore));
        TWINS.sameStateAndHistory("restore(), undone", made.andThen(TiltBoards::restore).andThen(TiltBoards::undo), made);
        TWINS.sameState("keep(), acts and restore()", y -> {
            Twins.busy(y);
            y.keep();
            y.pass(7);
            y.setGrip(0, 1);
            y.set(1, 1);
            y.tilt(2, 90);
            y.emptyPan(3);
            y.pass(7);
            y.restore();
        }, y -> {
            Twins.busy(y);
            y.keep();
        });
    }

    /** It answers a tick, neither an error nor NONE: so it is recorded. */
    private static void restoreOfWhatIsSoAlready() {
        TiltBoards x = new TiltBoards();
        x.pass(3);
        x.keep();
        for (int i = 2; i <= 4; i++) {
            due("restore()", x.restore(), 3);
            due("states", x.count(10), i);
        }
        due("restore()", x.restore(), 3);
        due("states", x.count(10), 4);
        for (int left = 3; left >= 0; left--) {
            due("undo()", x.undo(), left);
            due("tick", x.count(0), 3);
        }
        due("undo()", x.undo(), NONE);
    }

    private static void snapshotStays() {
        TiltBoards x = new TiltBoards();
        x.pour(0, 0, 0, 9);
        x.jolt(0);
        x.keep();
        for (int i = 0; i < 5; i++) {
            x.tilt(0, 90);
            x.pass(1 + i);
            x.pour(0, 7, 3, 9);
            x.setGrip(0, 30);
            x.set(0, 0);
            due("restore()", x.restore(), 0);
            due("grains", x.grains(0, 0, 0), 9);
            due("all grains", x.count(1), 9);
            due("needs()", x.needs(0, 0, 0), 15);
            due("angle", x.board(0, 0), 0);
            due("poured", x.count(4), 9);
        }
        for (int i = 0; i < 4; i++) {
            x.undo();
        }
        due("undo() leaves it", x.restore(), 0);
        due("all grains", x.count(1), 9);
    }

    // "A state is everything but the text, the history, the snapshot and the latest stop."
    private static void whatIsInNoState() {
        TiltBoards x = new TiltBoards();
        x.keep();
        x.pour(0, 0, 0, 99);
        Checks.typeAll(x, "p000*1");
        due("a stop", x.perform(), TiltBoards.NOT_POSSIBLE);
        due("undo()", x.undo(), 0);
        due("the text is as it was", x.count(11), 6);
        due("the stop is as it was", x.stopped(1), TiltBoards.FULL);
        due("carried out now", x.perform(), 1);
        due("the stop is as it was", x.stopped(0), 0);
        x.clearText();
        x.undo();
        due("the text does not come back", x.count(11), 0);
        x.tilt(0, 5);
        x.tilt(0, 6);
        x.type('.');
        due("restore()", x.restore(), 0);
        due("the history is not that of the snapshot", x.count(10), 3);
        due("nor the text", x.count(11), 1);
        due("nor the stop", x.stopped(0), 0);
        x.tilt(0, 7);
        x.keep();
        x.undo();
        due("undo() leaves the new snapshot", x.restore(), 0);
        due("angle", x.board(0, 0), 7);
    }
}
