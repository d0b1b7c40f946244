import java.util.Arrays;
import java.util.function.BiConsumer;
import java.util.function.Consumer;
import java.util.function.ToIntFunction;

/**
 * Holds that two objects are the same in all that can be told of them, now and after going back,
 * restoring and performing. An object is used for 512 calls at most, so each part of what can be
 * told is asked of a pair of objects of its own, which are made anew by the same calls.
 */
final class Twins {
    /** Leaves some 150 calls for making an object and for the call that is looked at. */
    private static final int MOST_ANSWERS = 360;

    private static final class Tape {
        final int[] answers = new int[MOST_ANSWERS];
        int length;

        void add(int answer) {
            answers[length] = answer;
            length++;
        }
    }

    private record Part(String name, BiConsumer<TiltBoards, Tape> telling) { }

    private static final Part STOP = new Part("stop", Twins::stop);
    private static final Part[] STATE = {
        new Part("accounts", (x, tape) -> {
            accounts(x, tape);
            tape.add(x.count(0));
        }),
        new Part("sand", Twins::sand),
        new Part("needs", Twins::needs),
        new Part("reasons", Twins::reasons),
        new Part("foretold", Twins::foretold),
        new Part("later", Twins::later),
        new Part("text", Twins::text),
        new Part("text, and one sign more", Twins::longerText),
        new Part("snapshot", Twins::snapshot)
    };
    private static final Part[] HISTORY = {
        new Part("history", Twins::history),
        new Part("sand, 1 back", (x, tape) -> sandBack(x, tape, 1)),
        new Part("sand, 2 back", (x, tape) -> sandBack(x, tape, 2)),
        new Part("sand, 3 back", (x, tape) -> sandBack(x, tape, 3)),
        new Part("sand, 4 back", (x, tape) -> sandBack(x, tape, 4))
    };

    private final Checks checks;

    Twins(Checks checks) {
        this.checks = checks;
    }

    /** The call answers so and changes nothing at all. */
    void unchanged(String name, Consumer<TiltBoards> made, ToIntFunction<TiltBoards> call, int want) {
        unchangedButStop(name, made, call, want);
        same(name, STOP, made.andThen(call::applyAsInt), made);
    }

    /** The call answers so and changes nothing but the latest stop. */
    void unchangedButStop(String name, Consumer<TiltBoards> made, ToIntFunction<TiltBoards> call, int want) {
        TiltBoards x = new TiltBoards();
        made.accept(x);
        int states = x.count(10);
        checks.due(name, call.applyAsInt(x), want);
        checks.due(name + ": states in the history", x.count(10), states);
        sameState(name, made.andThen(call::applyAsInt), made);
        for (Part part : HISTORY) {
            same(name, part, made.andThen(call::applyAsInt), made);
        }
    }

    /** Both ways of making an object lead to the same, but for the history and the latest stop. */
    void sameState(String name, Consumer<TiltBoards> one, Consumer<TiltBoards> other) {
        for (Part part : STATE) {
            same(name, part, one, other);
        }
    }

    /** Both ways of making an object lead to the same, the history too, but for the latest stop. */
    void sameStateAndHistory(String name, Consumer<TiltBoards> one, Consumer<TiltBoards> other) {
        sameState(name, one, other);
        for (Part part : HISTORY) {
            same(name, part, one, other);
        }
    }

    /** Some difference is told between them: so that holding nothing to be changed says something. */
    void different(String name, Consumer<TiltBoards> one, Consumer<TiltBoards> other) {
        boolean any = false;
        for (Part part : STATE) {
            any |= !Arrays.equals(told(part, one).answers, told(part, other).answers);
        }
        checks.due(name + ": a difference is told", any);
    }

    private void same(String name, Part part, Consumer<TiltBoards> one, Consumer<TiltBoards> other) {
        Tape first = told(part, one);
        Tape second = told(part, other);
        int at = Arrays.mismatch(first.answers, second.answers);
        checks.due(name + ": " + part.name + ", answer of the first that differs" + (at < 0 ? "" : " (" + at + ")"),
                at < 0 ? 0 : first.answers[at], at < 0 ? 0 : second.answers[at]);
    }

    private static Tape told(Part part, Consumer<TiltBoards> made) {
        TiltBoards x = new TiltBoards();
        made.accept(x);
        Tape tape = new Tape();
        part.telling.accept(x, tape);
        return tape;
    }

    private static void stop(TiltBoards x, Tape tape) {
        tape.add(x.stopped(0));
        tape.add(x.stopped(1));
    }

    /** All but count(10), the states in the history. */
    private static void accounts(TiltBoards x, Tape tape) {
        for (int what = 0; what < 12; what++) {
            if (what != 10) {
                tape.add(x.count(what));
            }
        }
        for (int board = 0; board < 5; board++) {
            for (int what = 0; what < 8; what++) {
                tape.add(x.board(board, what));
            }
        }
        for (int kind = 0; kind < 4; kind++) {
            for (int what = 0; what < 4; what++) {
                tape.add(x.kind(kind, what));
            }
        }
    }

    private static void sand(TiltBoards x, Tape tape) {
        for (int place = 0; place < 160; place++) {
            tape.add(x.grains(place / 32, place / 4 % 8, place % 4));
        }
        for (int place = 0; place < 20; place++) {
            tape.add(x.pan(place / 4, place % 4));
        }
    }

    private static void needs(TiltBoards x, Tape tape) {
        for (int place = 0; place < 160; place++) {
            tape.add(x.needs(place / 32, place / 4 % 8, place % 4));
        }
    }

    private static void reasons(TiltBoards x, Tape tape) {
        for (int place = 0; place < 160; place++) {
            tape.add(x.reason(place / 32, place / 4 % 8, place % 4));
        }
    }

    private static void foretold(TiltBoards x, Tape tape) {
        for (int board = 0; board < 5; board++) {
            tape.add(x.leastAngle(board));
            tape.add(x.restsIn(board));
            tape.add(x.clearingAngle(board));
            for (int what = 0; what < 4; what++) {
                tape.add(x.ifTilted(board, 25, what));
                tape.add(x.ifTilted(board, 90, what));
            }
        }
        for (int kind = 0; kind < 4; kind++) {
            for (int angle = 0; angle <= 90; angle += 5) {
                tape.add(x.weighs(kind, angle, true));
                tape.add(x.weighs(kind, angle, false));
            }
        }
    }

    /** What is moving shows in the ticks that come. */
    private static void later(TiltBoards x, Tape tape) {
        for (int i = 0; i < 3; i++) {
            tape.add(x.pass(1));
            accounts(x, tape);
        }
    }

    private static void text(TiltBoards x, Tape tape) {
        tape.add(x.perform());
        accounts(x, tape);
        sand(x, tape);
        tape.add(x.clearText());
    }

    private static void longerText(TiltBoards x, Tape tape) {
        tape.add(x.type('1'));
        tape.add(x.perform());
        accounts(x, tape);
        sand(x, tape);
    }

    private static void snapshot(TiltBoards x, Tape tape) {
        tape.add(x.restore());
        accounts(x, tape);
        sand(x, tape);
        tape.add(x.keep());
    }

    private static void history(TiltBoards x, Tape tape) {
        tape.add(x.count(10));
        for (int i = 0; i < 5; i++) {
            tape.add(x.undo());
            accounts(x, tape);
        }
    }

    private static void sandBack(TiltBoards x, Tape tape, int states) {
        for (int i = 0; i < states; i++) {
            tape.add(x.undo());
        }
        sand(x, tape);
    }

    /**
     * Makes an object busy, by some 60 calls: sand on four boards and in a pan, heaps that are
     * moving, a full cell, changed grips and settings, a text without fault, a stop, a snapshot and
     * a full history.
     */
    static void busy(TiltBoards x) {
        Checks.perform(x, "p470*99;p470*1");
        x.set(0, 7);
        x.set(1, 9);
        x.set(2, 15);
        x.setGrip(2, 12);
        x.pour(0, 7, 0, 60);
        x.pour(0, 6, 1, 90);
        x.pour(0, 5, 2, 99);
        x.tilt(0, 33);
        x.pass(1);
        x.emptyPan(0);
        x.keep();
        x.pour(1, 3, 3, 98);
        x.pour(2, 0, 1, 99);
        x.pour(2, 1, 1, 98);
        x.pour(3, 7, 1, 30);
        x.tilt(3, 90);
        x.pass(1);
        x.tilt(4, 1);
        x.jolt(1);
        x.clearText();
        Checks.typeAll(x, "t2=40;j0;.3;p251*7");
    }

    /** Makes an object by some 90 calls, much as busy(), but with two states in the history. */
    static void fewActs(TiltBoards x) {
        Checks.perform(x, ".1;p473*99;p472*1");
        Checks.perform(x, "t0=33;p070*60;p061*90;t3=90;p371*30;.1;e0;p133*98;j1");
        x.keep();
        x.pour(2, 0, 1, 99);
        x.clearText();
        Checks.typeAll(x, "p133*1;.9");
    }
}
