import java.util.function.Consumer;
import java.util.function.ToIntFunction;

/**
 * Promises 1 to 8 at their edges: each parameter at its first and last value and just outside, each
 * answer at the point where it turns, and that nothing else changes where a call is refused.
 */
public final class EdgesOfActsTest {
    private static final Checks CHECKS = new Checks();
    private static final Twins TWINS = new Twins(CHECKS);
    private static final int UNKNOWN = TiltBoards.UNKNOWN;
    private static final int BAD_VALUE = TiltBoards.BAD_VALUE;
    private static final int FULL = TiltBoards.FULL;
    private static final int NONE = TiltBoards.NONE;
    private static final int LEAST = Integer.MIN_VALUE;
    private static final int MOST = Integer.MAX_VALUE;

    private static void due(String call, int got, int want) {
        CHECKS.due(call, got, want);
    }

    /** On a new object, on one with room in its history, and on one whose history is full. */
    private static void refused(String name, ToIntFunction<TiltBoards> call, int want) {
        TWINS.unchanged(name + " on a new object", x -> { }, call, want);
        refusedOnBusy(name, call, want);
    }

    private static void refusedOnBusy(String name, ToIntFunction<TiltBoards> call, int want) {
        TWINS.unchanged(name + " after few acts", Twins::fewActs, call, want);
        TWINS.unchanged(name + " on a busy object", Twins::busy, call, want);
    }

    /** The call is an act: its state is recorded, and undo() brings back all that was before it. */
    private static void act(String name, Consumer<TiltBoards> made, ToIntFunction<TiltBoards> call, int want) {
        TiltBoards x = new TiltBoards();
        made.accept(x);
        int states = x.count(10);
        due(name, call.applyAsInt(x), want);
        due(name + ": one state more", x.count(10), states + 1);
        due(name + ": undo()", x.undo(), states);
        Consumer<TiltBoards> acted = made.andThen(call::applyAsInt);
        TWINS.different(name, acted, made);
        TWINS.sameStateAndHistory(name + ", undone", acted.andThen(TiltBoards::undo), made);
    }

    public static void main(String[] args) {
        twinsTellDifferences();
        newObject();
        tiltAtItsEdges();
        tiltRefused();
        pourAtItsEdges();
        pourUpToTheRoom();
        pourRefused();
        joltAtItsEdges();
        joltRefused();
        emptyPanAtItsEdges();
        emptyPanRefused();
        setGripAtItsEdges();
        setGripRefused();
        setAtItsEdges();
        setRefused();
        passAtItsEdges();
        passUpToTheLastTick();
        passRefused();
        acts();
        CHECKS.end("EdgesOfActsTest");
    }

    /** Twins would say nothing if small changes went unseen. */
    private static void twinsTellDifferences() {
        TWINS.different("a tilt", Twins::busy, x -> {
            Twins.busy(x);
            x.tilt(0, 34);
        });
        TWINS.different("a jolt alone", Twins::busy, x -> {
            Twins.busy(x);
            x.jolt(2);
        });
        TWINS.different("a sign behind the text", Twins::busy, x -> {
            Twins.busy(x);
            x.type('5');
        });
        TWINS.different("a new snapshot", Twins::busy, x -> {
            Twins.busy(x);
            x.keep();
        });
    }

    // "Creates level boards without sand, at the tick 0."
    private static void newObject() {
        TiltBoards x = new TiltBoards();
        for (int board = 0; board < 5; board++) {
            due("new: angle", x.board(board, 0), 0);
            due("new: at rest", x.board(board, 7), 1);
            due("new: leastAngle()", x.leastAngle(board), NONE);
            due("new: restsIn()", x.restsIn(board), 0);
            due("new: clearingAngle()", x.clearingAngle(board), 0);
            for (int what = 0; what < 4; what++) {
                due("new: ifTilted()", x.ifTilted(board, 90, what), 0);
            }
            due("new: jolt()", x.jolt(board), NONE);
            due("new: emptyPan()", x.emptyPan(board), NONE);
            due("new: tilt(, 0)", x.tilt(board, 0), NONE);
        }
        due("new: clearText()", x.clearText(), 0);
        due("new: perform()", x.perform(), -100);
        due("new: undo()", x.undo(), NONE);
        due("new: restore()", x.restore(), NONE);
        due("new: stopped(0)", x.stopped(0), NONE);
        due("new: stopped(1)", x.stopped(1), NONE);
        int[] counts = {0, 0, 0, 0, 0, 0, 5, 5, 10, 20, 0, 0};
        for (int what = 0; what < 12; what++) {
            due("new: count(" + what + ")", x.count(what), counts[what]);
        }
        newObjectHasNoSand();
    }

    private static void newObjectHasNoSand() {
        TiltBoards x = new TiltBoards();
        TiltBoards y = new TiltBoards();
        for (int place = 0; place < 160; place++) {
            int board = place / 32;
            int cell = place / 4 % 8;
            int kind = place % 4;
            due("new: grains()", x.grains(board, cell, kind), 0);
            due("new: needs()", x.needs(board, cell, kind), NONE);
            due("new: reason()", x.reason(board, cell, kind), 1);
            due("new: pan()", y.pan(board, kind), 0);
        }
    }

    private static void tiltAtItsEdges() {
        int[] edges = {0, 4};
        for (int board : edges) {
            TiltBoards x = new TiltBoards();
            due("tilt(board, 0) at 0", x.tilt(board, 0), NONE);
            due("tilt(board, 1)", x.tilt(board, 1), 0);
            due("tilt(board, 90)", x.tilt(board, 90), 1);
            due("tilt(board, 90) at 90", x.tilt(board, 90), NONE);
            due("tilt(board, 91) at 90", x.tilt(board, 91), BAD_VALUE);
            due("tilt(board, 89)", x.tilt(board, 89), 90);
            due("tilt(board, -1)", x.tilt(board, -1), BAD_VALUE);
            due("tilt(board, 0)", x.tilt(board, 0), 89);
            due("tilt(board, 0) at 0", x.tilt(board, 0), NONE);
            due("four of them were acts", x.count(10), 4);
            x.tilt(board, 90);
            for (int other = 0; other < 5; other++) {
                due("only that board is tilted", x.board(other, 0), other == board ? 90 : 0);
            }
        }
    }

    private static void tiltRefused() {
        int[] noBoards = {LEAST, -1, 5, MOST};
        int[] noAngles = {LEAST, -1, 91, MOST};
        for (int board : noBoards) {
            refused("tilt(" + board + ", 7)", x -> x.tilt(board, 7), UNKNOWN);
            refused("tilt(" + board + ", 0)", x -> x.tilt(board, 0), UNKNOWN);
            refused("tilt(" + board + ", 91)", x -> x.tilt(board, 91), UNKNOWN);
            refused("tilt(" + board + ", -1)", x -> x.tilt(board, -1), UNKNOWN);
        }
        for (int angle : noAngles) {
            refused("tilt(0, " + angle + ")", x -> x.tilt(0, angle), BAD_VALUE);
            refused("tilt(4, " + angle + ")", x -> x.tilt(4, angle), BAD_VALUE);
        }
        refused("tilt(2, 0) as it is", x -> x.tilt(2, 0), NONE);
        refusedOnBusy("tilt(0, 33) as it is", x -> x.tilt(0, 33), NONE);
        refusedOnBusy("tilt(3, 90) as it is", x -> x.tilt(3, 90), NONE);
    }

    private static void pourAtItsEdges() {
        int[] boards = {0, 4};
        int[] cells = {0, 7};
        int[] kinds = {0, 3};
        for (int board : boards) {
            for (int cell : cells) {
                for (int kind : kinds) {
                    pourAt(board, cell, kind);
                }
            }
        }
    }

    private static void pourAt(int board, int cell, int kind) {
        TiltBoards x = new TiltBoards();
        String pour = "pour(" + board + ", " + cell + ", " + kind + ", ";
        due(pour + "0)", x.pour(board, cell, kind, 0), BAD_VALUE);
        due(pour + "100)", x.pour(board, cell, kind, 100), BAD_VALUE);
        due("nothing was poured", x.count(4), 0);
        due(pour + "99)", x.pour(board, cell, kind, 99), 99);
        due(pour + "1) onto 99", x.pour(board, cell, kind, 1), FULL);
        due("undo()", x.undo(), 0);
        due(pour + "1)", x.pour(board, cell, kind, 1), 1);
        due(pour + "99) onto 1", x.pour(board, cell, kind, 99), FULL);
        due(pour + "98) onto 1", x.pour(board, cell, kind, 98), 99);
        due("grains there", x.grains(board, cell, kind), 99);
        due("grains of all boards", x.count(1), 99);
        due("two of them were acts", x.count(10), 2);
    }

    // "at most 99 grains lie on a cell"; "FULL if there is too little room"
    private static void pourUpToTheRoom() {
        for (int kind = 0; kind < 4; kind++) {
            int other = 3 - kind;
            for (int lying = 1; lying <= 99; lying++) {
                TiltBoards x = new TiltBoards();
                x.pour(2, 3, kind, lying);
                due("one grain too much on " + lying, x.pour(2, 3, other, Math.min(100 - lying, 99)), FULL);
                due("nothing came", x.grains(2, 3, other), 0);
                due("just the room on " + lying, x.pour(2, 3, other, 99 - lying), lying == 99 ? BAD_VALUE : 99 - lying);
                due("the cell is full", x.board(2, 1), 99);
                due("one more", x.pour(2, 3, kind, 1), FULL);
                due("the cells about it have room", x.pour(2, 2, kind, 99) + x.pour(2, 4, kind, 99), 198);
            }
        }
        TiltBoards x = new TiltBoards();
        x.pour(0, 0, 0, 25);
        x.pour(0, 0, 1, 25);
        x.pour(0, 0, 2, 25);
        due("25 onto 75 of three kinds", x.pour(0, 0, 3, 25), FULL);
        due("24 onto 75 of three kinds", x.pour(0, 0, 3, 24), 24);
        due("the grains of this kind are told alone", x.grains(0, 0, 0), 25);
    }

    private static void pourRefused() {
        int[] noBoards = {LEAST, -1, 5, MOST};
        int[] noCells = {LEAST, -1, 8, MOST};
        int[] noKinds = {LEAST, -1, 4, MOST};
        int[] noGrains = {LEAST, -1, 0, 100, MOST};
        for (int board : noBoards) {
            refused("pour(" + board + ", 0, 0, 1)", x -> x.pour(board, 0, 0, 1), UNKNOWN);
            refused("pour(" + board + ", 7, 3, 100)", x -> x.pour(board, 7, 3, 100), UNKNOWN);
        }
        for (int cell : noCells) {
            refused("pour(0, " + cell + ", 0, 1)", x -> x.pour(0, cell, 0, 1), UNKNOWN);
            refused("pour(4, " + cell + ", 3, 0)", x -> x.pour(4, cell, 3, 0), UNKNOWN);
        }
        for (int kind : noKinds) {
            refused("pour(0, 0, " + kind + ", 1)", x -> x.pour(0, 0, kind, 1), UNKNOWN);
            refused("pour(4, 7, " + kind + ", 100)", x -> x.pour(4, 7, kind, 100), UNKNOWN);
            refusedOnBusy("pour(2, 0, " + kind + ", 1) onto 99", x -> x.pour(2, 0, kind, 1), UNKNOWN);
        }
        for (int grains : noGrains) {
            refused("pour(0, 0, 0, " + grains + ")", x -> x.pour(0, 0, 0, grains), BAD_VALUE);
            refusedOnBusy("pour(2, 0, 1, " + grains + ") onto 99", x -> x.pour(2, 0, 1, grains), BAD_VALUE);
        }
        refusedOnBusy("pour(2, 0, 1, 1) onto 99", x -> x.pour(2, 0, 1, 1), FULL);
        refusedOnBusy("pour(2, 0, 3, 99) onto 99", x -> x.pour(2, 0, 3, 99), FULL);
        refusedOnBusy("pour(1, 3, 3, 2) onto 98", x -> x.pour(1, 3, 3, 2), FULL);
        refusedOnBusy("pour(1, 3, 0, 2) onto 98", x -> x.pour(1, 3, 0, 2), FULL);
    }

    // "Returns how many heaps there are on it": 1 and all 32
    private static void joltAtItsEdges() {
        int[] boards = {0, 4};
        for (int board : boards) {
            TiltBoards x = new TiltBoards();
            due("no sand", x.jolt(board), NONE);
            for (int heaps = 1; heaps <= 32; heaps++) {
                x.pour(board, (heaps - 1) / 4, (heaps - 1) % 4, 1);
                due("jolt() with " + heaps + " heaps", x.jolt(board), heaps);
                due("moving", x.board(board, 6), heaps);
            }
            due("none is moving elsewhere", x.board(4 - board, 6), 0);
            due("no sand elsewhere", x.jolt(4 - board), NONE);
            x.pour(board, 0, 0, 10);
            due("grains more make no heap more", x.jolt(board), 32);
        }
        TiltBoards x = new TiltBoards();
        x.pour(0, 7, 0, 40);
        x.tilt(0, 90);
        due("jolt() with one heap", x.jolt(0), 1);
        x.pass(1);
        due("sand in the pan is no heap", x.jolt(0), NONE);
        due("a jolt of no heaps leaves none moving", x.board(0, 6), 0);
        x.tilt(0, 0);
        x.pour(0, 7, 0, 1);
        due("nor what is poured later", x.board(0, 6), 0);
    }

    private static void joltRefused() {
        int[] noBoards = {LEAST, -1, 5, MOST};
        for (int board : noBoards) {
            refused("jolt(" + board + ")", x -> x.jolt(board), UNKNOWN);
        }
        refused("jolt(4) without sand", x -> x.jolt(4), NONE);
        TWINS.unchanged("jolt(0) of a new object", x -> { }, x -> x.jolt(0), NONE);
        refusedOnBusy("jolt(3) with sand in its pan alone", x -> x.jolt(3), NONE);
    }

    private static void emptyPanAtItsEdges() {
        int[] boards = {0, 4};
        for (int board : boards) {
            for (int kind = 0; kind < 4; kind++) {
                TiltBoards x = new TiltBoards();
                x.pour(board, 7, kind, 1);
                x.tilt(board, 90);
                due("nothing has fallen yet", x.emptyPan(board), NONE);
                due("one falls", x.pass(1), 1);
                due("the other pans are empty", x.emptyPan(4 - board), NONE);
                due("one grain of kind " + kind, x.emptyPan(board), 1);
                due("it is empty", x.board(board, 2) + x.pan(board, kind), 0);
                due("emptied", x.count(5), 1);
                due("again", x.emptyPan(board), NONE);
                due("emptied", x.count(5), 1);
            }
        }
    }

    private static void emptyPanRefused() {
        int[] noBoards = {LEAST, -1, 5, MOST};
        for (int board : noBoards) {
            refused("emptyPan(" + board + ")", x -> x.emptyPan(board), UNKNOWN);
        }
        refused("emptyPan(0)", x -> x.emptyPan(0), NONE);
        refused("emptyPan(4)", x -> x.emptyPan(4), NONE);
        refusedOnBusy("emptyPan(2) with sand on its cells", x -> x.emptyPan(2), NONE);
    }

    private static void setGripAtItsEdges() {
        for (int kind = 0; kind < 4; kind++) {
            int first = 20 + 5 * kind;
            TiltBoards x = new TiltBoards();
            due("the first grip of " + kind, x.setGrip(kind, first), NONE);
            due("setGrip(kind, 80)", x.setGrip(kind, 80), first);
            due("setGrip(kind, 80) again", x.setGrip(kind, 80), NONE);
            due("setGrip(kind, 81)", x.setGrip(kind, 81), BAD_VALUE);
            due("setGrip(kind, 79)", x.setGrip(kind, 79), 80);
            due("setGrip(kind, 1)", x.setGrip(kind, 1), 79);
            due("setGrip(kind, 0)", x.setGrip(kind, 0), 1);
            due("setGrip(kind, 0) again", x.setGrip(kind, 0), NONE);
            due("setGrip(kind, -1)", x.setGrip(kind, -1), BAD_VALUE);
            due("four of them were acts", x.count(10), 4);
            for (int other = 0; other < 4; other++) {
                due("grip of " + other, x.kind(other, 0), other == kind ? 0 : 20 + 5 * other);
            }
        }
    }

    private static void setGripRefused() {
        int[] noKinds = {LEAST, -1, 4, MOST};
        int[] noGrips = {LEAST, -1, 81, MOST};
        for (int kind : noKinds) {
            refused("setGrip(" + kind + ", 40)", x -> x.setGrip(kind, 40), UNKNOWN);
            refused("setGrip(" + kind + ", 81)", x -> x.setGrip(kind, 81), UNKNOWN);
            refused("setGrip(" + kind + ", -1)", x -> x.setGrip(kind, -1), UNKNOWN);
        }
        for (int grip : noGrips) {
            refused("setGrip(0, " + grip + ")", x -> x.setGrip(0, grip), BAD_VALUE);
            refused("setGrip(3, " + grip + ")", x -> x.setGrip(3, grip), BAD_VALUE);
        }
        refused("setGrip(0, 20) as it is", x -> x.setGrip(0, 20), NONE);
        refused("setGrip(3, 35) as it is", x -> x.setGrip(3, 35), NONE);
        TWINS.unchanged("setGrip(2, 12) as it is", Twins::busy, x -> x.setGrip(2, 12), NONE);
    }

    // "0: how much less a moving heap needs (0 to 30; 5); 1: grains by which a heap needs a degree more
    // (1 to 99; 10); 2: grains of which one is lost (2 to 99; 20)"
    private static void setAtItsEdges() {
        int[][] ranges = {{0, 30, 5}, {1, 99, 10}, {2, 99, 20}};
        for (int which = 0; which < 3; which++) {
            int least = ranges[which][0];
            int most = ranges[which][1];
            int first = ranges[which][2];
            TiltBoards x = new TiltBoards();
            due("first value of " + which, x.set(which, first), NONE);
            due("most", x.set(which, most), first);
            due("most again", x.set(which, most), NONE);
            due("more than the most", x.set(which, most + 1), BAD_VALUE);
            due("one less than the most", x.set(which, most - 1), most);
            due("one more than the least", x.set(which, least + 1), most - 1);
            due("least", x.set(which, least), least + 1);
            due("least again", x.set(which, least), NONE);
            due("less than the least", x.set(which, least - 1), BAD_VALUE);
            due("four of them were acts", x.count(10), 4);
            for (int other = 0; other < 3; other++) {
                due("setting " + other, x.count(7 + other), other == which ? least : ranges[other][2]);
            }
        }
    }

    private static void setRefused() {
        int[] noSettings = {LEAST, -1, 3, MOST};
        int[][] noValues = {{LEAST, -1, 31, MOST}, {LEAST, 0, 100, MOST}, {LEAST, 1, 100, MOST}};
        for (int which : noSettings) {
            refused("set(" + which + ", 10)", x -> x.set(which, 10), UNKNOWN);
            refused("set(" + which + ", -1)", x -> x.set(which, -1), UNKNOWN);
            refused("set(" + which + ", 100)", x -> x.set(which, 100), UNKNOWN);
        }
        int[] now = {7, 9, 15};
        int[] first = {5, 10, 20};
        for (int i = 0; i < 3; i++) {
            int which = i;
            for (int value : noValues[which]) {
                refused("set(" + which + ", " + value + ")", x -> x.set(which, value), BAD_VALUE);
            }
            TWINS.unchanged("set() as it is at first", x -> { }, x -> x.set(which, first[which]), NONE);
            TWINS.unchanged("set() as it is", Twins::busy, x -> x.set(which, now[which]), NONE);
        }
    }

    private static void passAtItsEdges() {
        TiltBoards x = new TiltBoards();
        due("pass(0)", x.pass(0), BAD_VALUE);
        due("pass(1)", x.pass(1), 0);
        due("tick", x.count(0), 1);
        due("pass(99)", x.pass(99), 0);
        due("tick", x.count(0), 100);
        due("pass(100)", x.pass(100), BAD_VALUE);
        due("tick", x.count(0), 100);
        due("ticks in which nothing slides are acts too", x.count(10), 2);

        // From the cell 0 sand takes 8 ticks into the pan, from the cell 7 it takes 1.
        for (int cell = 0; cell < 8; cell++) {
            TiltBoards y = new TiltBoards();
            y.pour(4, cell, 0, 9);
            y.tilt(4, 20);
            int ticks = 8 - cell;
            due("a tick too few from " + cell, ticks > 1 ? y.pass(ticks - 1) : 0, 0);
            due("they are on the cell 7", y.grains(4, 7, 0), 9);
            due("the last tick from " + cell, y.pass(1), 9);
            due("none falls twice", y.pass(99), 0);
        }
        dueLateFall();
    }

    /** The 99th of 99 ticks counts, the 100th does not. */
    private static void dueLateFall() {
        TiltBoards x = new TiltBoards();
        x.setGrip(3, 80);
        x.set(1, 99);
        x.pour(0, 7, 3, 98);
        x.tilt(0, 50);
        x.pour(0, 6, 0, 99);
        // One grain comes to the cell 7 in each tick, and falls in the next one.
        due("pass(99)", x.pass(99), 98);
        due("pass(1)", x.pass(1), 1);
        due("pass(1)", x.pass(1), 0);
    }

    /** Brings an object to the tick 99999 - less, by some 140 calls. */
    private static void nearTheEnd(TiltBoards x, int less) {
        Checks.typeAll(x, ".99;.99;.99;.99;.99;.99;.99;.99;.99;.99;.99;.99;.99;.99;.99");
        for (int i = 0; i < 67; i++) {
            x.perform();
        }
        for (int i = 0; i < 4; i++) {
            x.pass(99);
        }
        x.pass(99 - less);
        x.pass(9);
        x.tilt(3, 90);
        x.pour(3, 7, 0, 30);
    }

    // "FULL if the tick would be beyond 99999"
    private static void passUpToTheLastTick() {
        for (int less = 0; less <= 98; less += 7) {
            TiltBoards x = new TiltBoards();
            nearTheEnd(x, less);
            due("tick", x.count(0), 99999 - less);
            due("one tick too many", x.pass(less + 1), FULL);
            due("99 ticks", x.pass(99), FULL);
            due("nothing has fallen", x.board(3, 3), 0);
            if (less > 0) {
                due("up to the last tick", x.pass(less), 29);
            }
            due("tick", x.count(0), 99999);
            due("one more", x.pass(1), FULL);
            due("no ticks", x.pass(0), BAD_VALUE);
            due("too many ticks", x.pass(100), BAD_VALUE);
            due("keep() at the last tick", x.keep(), 99999);
        }
        TiltBoards x = new TiltBoards();
        nearTheEnd(x, 99);
        due("99 ticks up to the last one", x.pass(99), 29);
        due("tick", x.count(0), 99999);
    }

    private static void passRefused() {
        int[] noTicks = {LEAST, -1, 0, 100, MOST};
        for (int ticks : noTicks) {
            refused("pass(" + ticks + ")", x -> x.pass(ticks), BAD_VALUE);
            TWINS.unchanged("pass(" + ticks + ") at the end", x -> nearTheEnd(x, 0), x -> x.pass(ticks), BAD_VALUE);
        }
        TWINS.unchanged("pass(1) at 99999", x -> nearTheEnd(x, 0), x -> x.pass(1), FULL);
        TWINS.unchanged("pass(99) at 99999", x -> nearTheEnd(x, 0), x -> x.pass(99), FULL);
        TWINS.unchanged("pass(2) at 99998", x -> nearTheEnd(x, 1), x -> x.pass(2), FULL);
        TWINS.unchanged("pass(99) at 99901", x -> nearTheEnd(x, 98), x -> x.pass(99), FULL);
    }

    private static void acts() {
        act("tilt()", Twins::fewActs, x -> x.tilt(0, 90), 33);
        act("pour()", Twins::fewActs, x -> x.pour(1, 3, 3, 1), 99);
        act("jolt()", Twins::fewActs, x -> x.jolt(0), 1);
        act("emptyPan()", Twins::fewActs, x -> x.emptyPan(3), 29);
        act("setGrip()", Twins::fewActs, x -> x.setGrip(1, 0), 25);
        act("set(0)", Twins::fewActs, x -> x.set(0, 30), 5);
        act("set(1)", Twins::fewActs, x -> x.set(1, 1), 10);
        act("set(2)", Twins::fewActs, x -> x.set(2, 2), 20);
        act("pass()", Twins::fewActs, x -> x.pass(1), 0);
        act("pass() with a fall", x -> {
            Twins.fewActs(x);
            x.setGrip(1, 0);
        }, x -> x.pass(99), 82);
    }
}
