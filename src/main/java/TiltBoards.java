/**
 * Tilting boards that weigh sand by its sticky slide. What each method promises is written in
 * ../shared/DOC.md; the rules that this file keeps to are in ../shared/LANGUAGE.md.
 */
public final class TiltBoards {
    /** There is no such board, cell, kind or setting. */
    public static final int UNKNOWN = -1;
    /** Another argument is out of range. */
    public static final int BAD_VALUE = -2;
    /** There is no more room. */
    public static final int FULL = -3;
    /** This is not possible. */
    public static final int NOT_POSSIBLE = -4;
    /** There is no such thing; not an error. */
    public static final int NONE = -5;

    private static final int BOARDS = 5;
    private static final int CELLS = 8;
    private static final int LAST_CELL = 7;
    private static final int KINDS = 4;
    private static final int SETTINGS = 3;
    private static final int CELL_ROOM = 99;
    private static final int MOST_POURED = 99;
    private static final int STEEPEST = 90;
    private static final int MOST_GRIP = 80;
    private static final int MOST_TICKS = 99;
    private static final int LAST_TICK = 99999;
    private static final int TICKS_FORESEEN = 300;
    private static final int MOST_STATES = 4;
    private static final int MOST_SIGNS = 60;
    private static final int FAULT_BASE = -100;

    private static final int EASE_OF_MOVING = 0;
    private static final int GRAINS_A_DEGREE = 1;
    private static final int GRAINS_A_DUST = 2;
    private static final int[] LEAST_SETTING = {0, 1, 2};
    private static final int[] MOST_SETTING = {30, 99, 99};
    private static final int[] FIRST_SETTING = {5, 10, 20};
    private static final int[] FIRST_GRIP = {20, 25, 30, 35};

    private static final int SLIDES = 0;
    private static final int NO_HEAP = 1;
    private static final int TOO_FLAT = 2;
    private static final int NO_ROOM = 3;

    private final State now;
    private final State before;
    private final State snapshot;
    private boolean hasSnapshot;
    private final History history;
    private final Board trial;
    private final Orders text;
    private int stopOrder;
    private int stopError;

    public TiltBoards() {
        now = new State();
        before = new State();
        snapshot = new State();
        hasSnapshot = false;
        history = new History();
        trial = new Board();
        text = new Orders();
        stopOrder = NONE;
        stopError = NONE;
    }

    // ---- boards, sand

    public int tilt(int board, int angle) {
        before.copyFrom(now);
        return recorded(now.tiltBoard(board, angle));
    }

    public int pour(int board, int cell, int kind, int grains) {
        before.copyFrom(now);
        return recorded(now.pourGrains(board, cell, kind, grains));
    }

    public int jolt(int board) {
        before.copyFrom(now);
        return recorded(now.joltBoard(board));
    }

    public int emptyPan(int board) {
        before.copyFrom(now);
        return recorded(now.emptyPanOf(board));
    }

    public int setGrip(int kind, int grip) {
        before.copyFrom(now);
        return recorded(now.changeGrip(kind, grip));
    }

    public int set(int which, int value) {
        before.copyFrom(now);
        return recorded(now.changeSetting(which, value));
    }

    public int pass(int ticks) {
        before.copyFrom(now);
        return recorded(now.passTicks(ticks));
    }

    // ---- texts

    public int type(char character) {
        return text.append(character);
    }

    public int clearText() {
        return text.clear();
    }

    public int perform() {
        int orders = text.readAll();
        if (text.faulty) {
            return FAULT_BASE - text.at;
        }
        before.copyFrom(now);
        text.readFromStart();
        for (int order = 0; order < orders; order++) {
            text.readNext();
            int answer = carryOut();
            if (answer < 0 && answer != NONE) {
                now.copyFrom(before);
                stopOrder = order;
                stopError = answer;
                return NOT_POSSIBLE;
            }
        }
        return recorded(orders);
    }

    public int stopped(int what) {
        if (!isWithin(what, 0, 1)) {
            return BAD_VALUE;
        }
        return what == 0 ? stopOrder : stopError;
    }

    // ---- history

    public int undo() {
        if (history.held == 0) {
            return NONE;
        }
        history.takeLatest(now);
        return history.held;
    }

    public int keep() {
        snapshot.copyFrom(now);
        hasSnapshot = true;
        return now.tick;
    }

    public int restore() {
        if (!hasSnapshot) {
            return NONE;
        }
        before.copyFrom(now);
        now.copyFrom(snapshot);
        return recorded(now.tick);
    }

    // ---- what is told

    public int grains(int board, int cell, int kind) {
        if (!isPlace(board, cell, kind)) {
            return UNKNOWN;
        }
        return now.boards[board].heaps[indexOf(cell, kind)];
    }

    public int board(int board, int what) {
        if (!isBoard(board)) {
            return UNKNOWN;
        }
        Board told = now.boards[board];
        switch (what) {
            case 0:
                return told.angle;
            case 1:
                return told.grainsOnCells();
            case 2:
                return told.grainsInPan();
            case 3:
                return told.fallen;
            case 4:
                return told.dust;
            case 5:
                return told.heapsLying();
            case 6:
                return told.heapsMoving();
            case 7:
                return told.isAtRest(now.rules) ? 1 : 0;
            default:
                return BAD_VALUE;
        }
    }

    public int pan(int board, int kind) {
        if (!isBoard(board) || !isKind(kind)) {
            return UNKNOWN;
        }
        return now.boards[board].pan[kind];
    }

    public int kind(int kind, int what) {
        if (!isKind(kind)) {
            return UNKNOWN;
        }
        switch (what) {
            case 0:
                return now.rules.grips[kind];
            case 1:
                return now.onCellsOfKind(kind);
            case 2:
                return now.inPansOfKind(kind);
            case 3:
                return now.poured[kind];
            default:
                return BAD_VALUE;
        }
    }

    public int needs(int board, int cell, int kind) {
        if (!isPlace(board, cell, kind)) {
            return UNKNOWN;
        }
        Board told = now.boards[board];
        if (told.heaps[indexOf(cell, kind)] == 0) {
            return NONE;
        }
        return told.angleNeeded(cell, kind, now.rules);
    }

    public int reason(int board, int cell, int kind) {
        if (!isPlace(board, cell, kind)) {
            return UNKNOWN;
        }
        return now.boards[board].whyNoSlide(cell, kind, now.rules);
    }

    public int leastAngle(int board) {
        if (!isBoard(board)) {
            return UNKNOWN;
        }
        int angle = now.boards[board].leastAngleOfSlide(now.rules);
        return angle <= STEEPEST ? angle : NONE;
    }

    public int restsIn(int board) {
        if (!isBoard(board)) {
            return UNKNOWN;
        }
        int ticks = tryAngle(board, now.boards[board].angle);
        return trial.isAtRest(now.rules) ? ticks : NONE;
    }

    public int ifTilted(int board, int angle, int what) {
        if (!isBoard(board)) {
            return UNKNOWN;
        }
        if (!isWithin(angle, 0, STEEPEST) || !isWithin(what, 0, 3)) {
            return BAD_VALUE;
        }
        int ticks = tryAngle(board, angle);
        switch (what) {
            case 0:
                return ticks;
            case 1:
                return trial.fallen - now.boards[board].fallen;
            case 2:
                return trial.dust - now.boards[board].dust;
            default:
                return trial.grainsOnCells();
        }
    }

    public int clearingAngle(int board) {
        if (!isBoard(board)) {
            return UNKNOWN;
        }
        // A steeper board may leave more than a flatter one, so no angle can be skipped.
        for (int angle = 0; angle <= STEEPEST; angle++) {
            tryAngle(board, angle);
            if (trial.grainsOnCells() == 0) {
                return angle;
            }
        }
        return NONE;
    }

    public int weighs(int kind, int angle, boolean most) {
        if (!isKind(kind)) {
            return UNKNOWN;
        }
        if (!isWithin(angle, 0, STEEPEST)) {
            return BAD_VALUE;
        }
        int found = NONE;
        for (int grains = 1; grains <= CELL_ROOM; grains++) {
            boolean fits = now.rules.angleAtRest(kind, grains) == angle;
            if (fits && (most || found == NONE)) {
                found = grains;
            }
        }
        return found;
    }

    public int count(int what) {
        switch (what) {
            case 0:
                return now.tick;
            case 1:
                return now.onAllCells();
            case 2:
                return now.inAllPans();
            case 3:
                return now.dustOfAll();
            case 4:
                return now.pouredOfAll();
            case 5:
                return now.emptied;
            case 6:
                return now.boardsAtRest();
            case 7:
            case 8:
            case 9:
                return now.rules.settings[what - 7];
            case 10:
                return history.held;
            case 11:
                return text.length;
            default:
                return BAD_VALUE;
        }
    }

    /** Ends an act: unless it answers an error or NONE, the state before it goes into the history. */
    private int recorded(int answer) {
        if (answer >= 0) {
            history.record(before);
        }
        return answer;
    }

    /** Carries out the order that was read last, as the act of its own would, but unrecorded. */
    private int carryOut() {
        if (text.verb == 't') {
            return now.tiltBoard(text.board, text.number);
        }
        if (text.verb == 'p') {
            return now.pourGrains(text.board, text.cell, text.kind, text.number);
        }
        if (text.verb == 'j') {
            return now.joltBoard(text.board);
        }
        if (text.verb == 'e') {
            return now.emptyPanOf(text.board);
        }
        return now.passTicks(text.number);
    }

    /** Lets a copy of a board come to rest at an angle, for a while at most; tells in how many ticks. */
    private int tryAngle(int board, int angle) {
        trial.copyFrom(now.boards[board]);
        trial.angle = angle;
        int ticks = 0;
        while (ticks < TICKS_FORESEEN && trial.slideOnce(now.rules)) {
            ticks++;
        }
        return ticks;
    }

    private static boolean isWithin(int value, int least, int most) {
        return value >= least && value <= most;
    }

    private static boolean isBoard(int board) {
        return isWithin(board, 0, BOARDS - 1);
    }

    private static boolean isKind(int kind) {
        return isWithin(kind, 0, KINDS - 1);
    }

    private static boolean isPlace(int board, int cell, int kind) {
        return isBoard(board) && isWithin(cell, 0, LAST_CELL) && isKind(kind);
    }

    /** Where the heap of a kind on a cell stands in a board's rows. */
    private static int indexOf(int cell, int kind) {
        return cell * KINDS + kind;
    }

    /** The grips and the settings, which hold for all boards. */
    private static final class Rules {
        final int[] grips = new int[KINDS];
        final int[] settings = new int[SETTINGS];
        /** The kinds by rising grips, of the same grip by numbers. */
        final int[] slideOrder = new int[KINDS];

        Rules() {
            for (int kind = 0; kind < KINDS; kind++) {
                grips[kind] = FIRST_GRIP[kind];
            }
            for (int which = 0; which < SETTINGS; which++) {
                settings[which] = FIRST_SETTING[which];
            }
            sortKinds();
        }

        void copyFrom(Rules other) {
            System.arraycopy(other.grips, 0, grips, 0, KINDS);
            System.arraycopy(other.settings, 0, settings, 0, SETTINGS);
            System.arraycopy(other.slideOrder, 0, slideOrder, 0, KINDS);
        }

        void changeGripOf(int kind, int grip) {
            grips[kind] = grip;
            sortKinds();
        }

        private void sortKinds() {
            for (int kind = 0; kind < KINDS; kind++) {
                int ahead = 0;
                for (int other = 0; other < KINDS; other++) {
                    if (grips[other] < grips[kind] || grips[other] == grips[kind] && other < kind) {
                        ahead++;
                    }
                }
                slideOrder[ahead] = kind;
            }
        }

        /** The angle that a heap needs which is not moving, with so many grains in all on its cell. */
        int angleAtRest(int kind, int grainsOnCell) {
            int grainsADegree = settings[GRAINS_A_DEGREE];
            int degrees = grainsADegree > 0 ? grainsOnCell / grainsADegree : 0;
            return grips[kind] + degrees;
        }

        int dustOf(int grainsLost) {
            int grainsADust = settings[GRAINS_A_DUST];
            return grainsADust > 0 ? grainsLost / grainsADust : 0;
        }
    }

    /** One board with the sand on its cells and in its pan. */
    private static final class Board {
        final int[] heaps = new int[CELLS * KINDS];
        /** Which heaps are moving in the next tick. */
        final boolean[] moving = new boolean[CELLS * KINDS];
        final int[] pan = new int[KINDS];
        int angle;
        int fallen;
        int dust;

        void copyFrom(Board other) {
            System.arraycopy(other.heaps, 0, heaps, 0, CELLS * KINDS);
            System.arraycopy(other.pan, 0, pan, 0, KINDS);
            // The language's rule 4 lets only rows of numbers be copied by the library.
            for (int place = 0; place < CELLS * KINDS; place++) {
                moving[place] = other.moving[place];
            }
            angle = other.angle;
            fallen = other.fallen;
            dust = other.dust;
        }

        int grainsOn(int cell) {
            int first = cell * KINDS;
            int sum = 0;
            for (int kind = 0; kind < KINDS; kind++) {
                sum += heaps[first + kind];
            }
            return sum;
        }

        int roomBelow(int cell) {
            // The pan has room for all, and no heap is greater than what a cell can hold.
            return cell >= LAST_CELL ? CELL_ROOM : CELL_ROOM - grainsOn(cell + 1);
        }

        int angleNeeded(int cell, int kind, Rules rules) {
            int needed = rules.angleAtRest(kind, grainsOn(cell));
            if (!moving[indexOf(cell, kind)]) {
                return needed;
            }
            return Math.max(0, needed - rules.settings[EASE_OF_MOVING]);
        }

        int whyNoSlide(int cell, int kind, Rules rules) {
            if (heaps[indexOf(cell, kind)] == 0) {
                return NO_HEAP;
            }
            if (angle < angleNeeded(cell, kind, rules)) {
                return TOO_FLAT;
            }
            return roomBelow(cell) == 0 ? NO_ROOM : SLIDES;
        }

        boolean isAtRest(Rules rules) {
            for (int cell = 0; cell < CELLS; cell++) {
                for (int kind = 0; kind < KINDS; kind++) {
                    if (whyNoSlide(cell, kind, rules) == SLIDES) {
                        return false;
                    }
                }
            }
            return true;
        }

        /** The least angle with which any heap would slide; above all angles if none ever would. */
        int leastAngleOfSlide(Rules rules) {
            int least = STEEPEST + 1;
            for (int cell = 0; cell < CELLS; cell++) {
                boolean hasRoom = roomBelow(cell) > 0;
                for (int kind = 0; kind < KINDS; kind++) {
                    if (hasRoom && heaps[indexOf(cell, kind)] > 0) {
                        least = Math.min(least, angleNeeded(cell, kind, rules));
                    }
                }
            }
            return least;
        }

        /** Lets one tick pass on this board; tells whether anything slid. */
        boolean slideOnce(Rules rules) {
            boolean anySlid = false;
            for (int cell = LAST_CELL; cell >= 0; cell--) {
                for (int place = 0; place < KINDS; place++) {
                    int kind = rules.slideOrder[place];
                    if (whyNoSlide(cell, kind, rules) == SLIDES) {
                        slideHeap(cell, kind, rules);
                        anySlid = true;
                    }
                }
                // What comes to this cell comes only later in this tick, from the cell above:
                // so its marks can be wiped here and set again for the tick that follows.
                stopMoving(cell);
            }
            return anySlid;
        }

        private void slideHeap(int cell, int kind, Rules rules) {
            int here = indexOf(cell, kind);
            int lost = Math.min(heaps[here], roomBelow(cell));
            int turnedToDust = rules.dustOf(lost);
            int coming = lost - turnedToDust;
            heaps[here] -= lost;
            dust += turnedToDust;
            if (cell >= LAST_CELL) {
                pan[kind] += coming;
                fallen += coming;
                return;
            }
            int below = indexOf(cell + 1, kind);
            heaps[below] += coming;
            if (coming > 0) {
                moving[below] = true;
            }
        }

        private void stopMoving(int cell) {
            for (int kind = 0; kind < KINDS; kind++) {
                moving[indexOf(cell, kind)] = false;
            }
        }

        void moveAllHeaps() {
            for (int place = 0; place < CELLS * KINDS; place++) {
                if (heaps[place] > 0) {
                    moving[place] = true;
                }
            }
        }

        int grainsOnCells() {
            int sum = 0;
            for (int place = 0; place < CELLS * KINDS; place++) {
                sum += heaps[place];
            }
            return sum;
        }

        int grainsInPan() {
            int sum = 0;
            for (int kind = 0; kind < KINDS; kind++) {
                sum += pan[kind];
            }
            return sum;
        }

        int heapsLying() {
            int found = 0;
            for (int place = 0; place < CELLS * KINDS; place++) {
                if (heaps[place] > 0) {
                    found++;
                }
            }
            return found;
        }

        int heapsMoving() {
            int found = 0;
            for (int place = 0; place < CELLS * KINDS; place++) {
                if (heaps[place] > 0 && moving[place]) {
                    found++;
                }
            }
            return found;
        }
    }

    /** All that undo() and restore() bring back, with the acts that change it, unrecorded. */
    private static final class State {
        final Rules rules = new Rules();
        final Board[] boards = new Board[BOARDS];
        final int[] poured = new int[KINDS];
        int emptied;
        int tick;

        State() {
            for (int board = 0; board < BOARDS; board++) {
                boards[board] = new Board();
            }
        }

        void copyFrom(State other) {
            rules.copyFrom(other.rules);
            for (int board = 0; board < BOARDS; board++) {
                boards[board].copyFrom(other.boards[board]);
            }
            System.arraycopy(other.poured, 0, poured, 0, KINDS);
            emptied = other.emptied;
            tick = other.tick;
        }

        int tiltBoard(int board, int angle) {
            if (!isBoard(board)) {
                return UNKNOWN;
            }
            if (!isWithin(angle, 0, STEEPEST)) {
                return BAD_VALUE;
            }
            int previous = boards[board].angle;
            if (previous == angle) {
                return NONE;
            }
            boards[board].angle = angle;
            return previous;
        }

        int pourGrains(int board, int cell, int kind, int grains) {
            if (!isPlace(board, cell, kind)) {
                return UNKNOWN;
            }
            if (!isWithin(grains, 1, MOST_POURED)) {
                return BAD_VALUE;
            }
            Board onto = boards[board];
            if (onto.grainsOn(cell) + grains > CELL_ROOM) {
                return FULL;
            }
            onto.heaps[indexOf(cell, kind)] += grains;
            poured[kind] += grains;
            return onto.heaps[indexOf(cell, kind)];
        }

        int joltBoard(int board) {
            if (!isBoard(board)) {
                return UNKNOWN;
            }
            int heaps = boards[board].heapsLying();
            if (heaps == 0) {
                return NONE;
            }
            boards[board].moveAllHeaps();
            return heaps;
        }

        int emptyPanOf(int board) {
            if (!isBoard(board)) {
                return UNKNOWN;
            }
            int grains = boards[board].grainsInPan();
            if (grains == 0) {
                return NONE;
            }
            for (int kind = 0; kind < KINDS; kind++) {
                boards[board].pan[kind] = 0;
            }
            emptied += grains;
            return grains;
        }

        int changeGrip(int kind, int grip) {
            if (!isKind(kind)) {
                return UNKNOWN;
            }
            if (!isWithin(grip, 0, MOST_GRIP)) {
                return BAD_VALUE;
            }
            int previous = rules.grips[kind];
            if (previous == grip) {
                return NONE;
            }
            rules.changeGripOf(kind, grip);
            return previous;
        }

        int changeSetting(int which, int value) {
            if (!isWithin(which, 0, SETTINGS - 1)) {
                return UNKNOWN;
            }
            if (!isWithin(value, LEAST_SETTING[which], MOST_SETTING[which])) {
                return BAD_VALUE;
            }
            int previous = rules.settings[which];
            if (previous == value) {
                return NONE;
            }
            rules.settings[which] = value;
            return previous;
        }

        int passTicks(int ticks) {
            if (!isWithin(ticks, 1, MOST_TICKS)) {
                return BAD_VALUE;
            }
            if (tick + ticks > LAST_TICK) {
                return FULL;
            }
            int fallenBefore = fallenOfAll();
            for (int board = 0; board < BOARDS; board++) {
                // Where nothing slid, nothing is moving any more: later ticks change nothing.
                boolean anySlid = true;
                for (int passed = 0; passed < ticks && anySlid; passed++) {
                    anySlid = boards[board].slideOnce(rules);
                }
            }
            tick += ticks;
            return fallenOfAll() - fallenBefore;
        }

        int onCellsOfKind(int kind) {
            int sum = 0;
            for (int board = 0; board < BOARDS; board++) {
                for (int cell = 0; cell < CELLS; cell++) {
                    sum += boards[board].heaps[indexOf(cell, kind)];
                }
            }
            return sum;
        }

        int inPansOfKind(int kind) {
            int sum = 0;
            for (int board = 0; board < BOARDS; board++) {
                sum += boards[board].pan[kind];
            }
            return sum;
        }

        int onAllCells() {
            int sum = 0;
            for (int board = 0; board < BOARDS; board++) {
                sum += boards[board].grainsOnCells();
            }
            return sum;
        }

        int inAllPans() {
            int sum = 0;
            for (int board = 0; board < BOARDS; board++) {
                sum += boards[board].grainsInPan();
            }
            return sum;
        }

        int fallenOfAll() {
            int sum = 0;
            for (int board = 0; board < BOARDS; board++) {
                sum += boards[board].fallen;
            }
            return sum;
        }

        int dustOfAll() {
            int sum = 0;
            for (int board = 0; board < BOARDS; board++) {
                sum += boards[board].dust;
            }
            return sum;
        }

        int pouredOfAll() {
            int sum = 0;
            for (int kind = 0; kind < KINDS; kind++) {
                sum += poured[kind];
            }
            return sum;
        }

        int boardsAtRest() {
            int found = 0;
            for (int board = 0; board < BOARDS; board++) {
                if (boards[board].isAtRest(rules)) {
                    found++;
                }
            }
            return found;
        }
    }

    /** The latest states, in a ring that is used again and again. */
    private static final class History {
        final State[] states = new State[MOST_STATES];
        int oldest;
        int held;

        History() {
            for (int place = 0; place < MOST_STATES; place++) {
                states[place] = new State();
            }
        }

        void record(State state) {
            if (held >= MOST_STATES) {
                oldest = (oldest + 1) % MOST_STATES;
                held--;
            }
            states[(oldest + held) % MOST_STATES].copyFrom(state);
            held++;
        }

        void takeLatest(State into) {
            if (held > 0) {
                held--;
                into.copyFrom(states[(oldest + held) % MOST_STATES]);
            }
        }
    }

    /** The text, and a reader that goes through its orders one by one up to the first fault. */
    private static final class Orders {
        final char[] signs = new char[MOST_SIGNS];
        int length;
        /** The index of the next sign; once the text is found faulty, that of the fault. */
        int at;
        boolean faulty;
        char verb;
        int board;
        int cell;
        int kind;
        int number;

        int append(char sign) {
            if (length >= MOST_SIGNS) {
                return FULL;
            }
            signs[length] = sign;
            length++;
            return length;
        }

        int clear() {
            int had = length;
            length = 0;
            return had;
        }

        /** Reads the whole text; tells how many orders there are, if it is not faulty. */
        int readAll() {
            readFromStart();
            int orders = 0;
            boolean hasMore = true;
            while (hasMore && orders < MOST_SIGNS) {
                hasMore = readNext();
                orders++;
            }
            return orders;
        }

        void readFromStart() {
            at = 0;
            faulty = false;
        }

        /** Reads an order and the ";" behind it; tells whether another order is due. */
        boolean readNext() {
            readOrder();
            if (faulty || at >= length) {
                return false;
            }
            readSign(';');
            return !faulty;
        }

        private void readOrder() {
            readVerb();
            if (verb != '.') {
                board = readDigit(0, BOARDS - 1);
            }
            if (verb == 't') {
                readSign('=');
                number = readNumber(0, STEEPEST);
            } else if (verb == 'p') {
                cell = readDigit(0, LAST_CELL);
                kind = readDigit(0, KINDS - 1);
                readSign('*');
                number = readNumber(1, MOST_POURED);
            } else if (verb == '.') {
                number = readNumber(1, MOST_TICKS);
            }
        }

        private void readVerb() {
            if (at >= length || !isVerb(signs[at])) {
                faulty = true;
                return;
            }
            verb = signs[at];
            at++;
        }

        private static boolean isVerb(char sign) {
            return sign == 't' || sign == 'p' || sign == 'j' || sign == 'e' || sign == '.';
        }

        private void readSign(char due) {
            if (faulty || at >= length || signs[at] != due) {
                faulty = true;
                return;
            }
            at++;
        }

        private int readDigit(int least, int most) {
            if (faulty || at >= length || !isWithin(signs[at] - '0', least, most)) {
                faulty = true;
                return 0;
            }
            int digit = signs[at] - '0';
            at++;
            return digit;
        }

        /** Reads the digits that belong to a number; one too many is left to whoever reads on. */
        private int readNumber(int least, int most) {
            int value = readDigit(least, 9);
            while (at < length && canGoOn(value, signs[at], most)) {
                value = value * 10 + (signs[at] - '0');
                at++;
            }
            return value;
        }

        /** Whether a sign is a digit of the number that begins so; none goes on behind a 0. */
        private static boolean canGoOn(int value, char sign, int most) {
            int digit = sign - '0';
            return value > 0 && isWithin(digit, 0, 9) && value * 10 + digit <= most;
        }
    }
}
