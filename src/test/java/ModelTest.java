import java.util.Random;

/** All promises at once: long runs of calls, the same on the program and on the model. */
public final class ModelTest {
    private static final int RUNS = 600;
    private static final int CALLS = 512;
    private static final String SIGNS = "tpje.=*;0123456789";
    private static final Checks CHECKS = new Checks();

    private final Random random;
    private final String run;
    private final TiltBoards x = new TiltBoards();
    private final Model y = new Model();
    /** How many boards and cells the run uses mostly: few of them make full cells. */
    private final int boards;
    private final int cells;
    private int calls;

    private ModelTest(int seed) {
        random = new Random(seed);
        run = "run " + seed + ", call ";
        boards = 1 + random.nextInt(5);
        cells = 1 + random.nextInt(8);
    }

    public static void main(String[] args) {
        for (int seed = 0; seed < RUNS; seed++) {
            new ModelTest(seed).play();
        }
        CHECKS.end("ModelTest");
    }

    private void due(String call, int got, int want) {
        calls++;
        CHECKS.due(run + calls + ": " + call, got, want);
    }

    /** Mostly a number from 0 to most, at times one just outside or far outside. */
    private int number(int most) {
        int dice = random.nextInt(60);
        if (dice == 0) {
            return -1;
        }
        if (dice == 1) {
            return most + 1;
        }
        if (dice == 2) {
            return random.nextInt();
        }
        return random.nextInt(most + 1);
    }

    private int someBoard() {
        return random.nextInt(8) == 0 ? number(4) : random.nextInt(boards);
    }

    private int someCell() {
        return random.nextInt(8) == 0 ? number(7) : 8 - cells + random.nextInt(cells);
    }

    private int someAngle() {
        return random.nextInt(3) == 0 ? number(90) : random.nextInt(50);
    }

    private void play() {
        if (random.nextBoolean()) {
            changeRules();
        }
        while (calls < CALLS - 100) {
            int dice = random.nextInt(100);
            if (dice < 40) {
                act();
            } else if (dice < 46) {
                changeRules();
            } else if (dice < 56) {
                goBack();
            } else if (dice < 62) {
                text();
            } else {
                tell();
            }
        }
        for (int cell = 0; cell < 8; cell++) {
            for (int kind = 0; kind < 4; kind++) {
                due("grains at the end", x.grains(0, cell, kind), y.grains(0, cell, kind));
            }
        }
        int accounts = x.count(1) + x.count(2) + x.count(3) + x.count(5);
        due("accounts", accounts, x.count(4));
    }

    private void act() {
        int board = someBoard();
        int dice = random.nextInt(20);
        if (dice < 9) {
            int cell = someCell();
            int kind = number(3);
            int grains = random.nextInt(3) == 0 ? number(99) : 1 + random.nextInt(40);
            due("pour(" + board + ", " + cell + ", " + kind + ", " + grains + ")",
                    x.pour(board, cell, kind, grains), y.pour(board, cell, kind, grains));
        } else if (dice < 13) {
            int angle = someAngle();
            due("tilt(" + board + ", " + angle + ")", x.tilt(board, angle), y.tilt(board, angle));
        } else if (dice < 17) {
            int ticks = random.nextInt(5) == 0 ? number(99) : 1 + random.nextInt(3);
            due("pass(" + ticks + ")", x.pass(ticks), y.pass(ticks));
        } else if (dice < 19) {
            due("jolt(" + board + ")", x.jolt(board), y.jolt(board));
        } else {
            due("emptyPan(" + board + ")", x.emptyPan(board), y.emptyPan(board));
        }
    }

    private void changeRules() {
        if (random.nextBoolean()) {
            int kind = number(3);
            int grip = random.nextInt(3) == 0 ? number(80) : 18 + 2 * random.nextInt(6);
            due("setGrip(" + kind + ", " + grip + ")", x.setGrip(kind, grip), y.setGrip(kind, grip));
        } else {
            int which = number(2);
            int value = random.nextBoolean() ? number(99) : number(12);
            due("set(" + which + ", " + value + ")", x.set(which, value), y.set(which, value));
        }
    }

    private void goBack() {
        int dice = random.nextInt(10);
        if (dice < 6) {
            due("undo()", x.undo(), y.undo());
        } else if (dice < 8) {
            due("keep()", x.keep(), y.keep());
        } else {
            due("restore()", x.restore(), y.restore());
        }
    }

    private void text() {
        if (random.nextInt(5) > 0) {
            due("clearText()", x.clearText(), y.clearText());
        }
        String orders = someOrders();
        for (int i = 0; i < orders.length() && calls < CALLS - 100; i++) {
            char sign = orders.charAt(i);
            due("type(" + (int) sign + ")", x.type(sign), y.type(sign));
        }
        due("perform() of " + orders, x.perform(), y.perform());
        due("stopped(0)", x.stopped(0), y.stopped(0));
        due("stopped(1)", x.stopped(1), y.stopped(1));
    }

    private String someOrders() {
        StringBuilder orders = new StringBuilder();
        int many = 1 + random.nextInt(5);
        for (int i = 0; i < many; i++) {
            orders.append(i == 0 ? "" : ";").append(someOrder());
        }
        if (random.nextInt(3) == 0) {
            int at = random.nextInt(orders.length());
            orders.setCharAt(at, SIGNS.charAt(random.nextInt(SIGNS.length())));
        }
        if (random.nextInt(8) == 0) {
            orders.setLength(random.nextInt(orders.length()));
        }
        return orders.toString();
    }

    private String someOrder() {
        int board = random.nextInt(boards);
        switch (random.nextInt(6)) {
            case 0:
                return "t" + board + "=" + random.nextInt(95);
            case 1:
                return "j" + board;
            case 2:
                return "e" + board;
            case 3:
                return "." + random.nextInt(20);
            default:
                return "p" + board + (8 - cells + random.nextInt(cells)) + random.nextInt(4) + "*" + random.nextInt(60);
        }
    }

    private void tell() {
        int board = someBoard();
        int cell = someCell();
        int kind = number(3);
        String place = "(" + board + ", " + cell + ", " + kind + ")";
        int dice = random.nextInt(30);
        if (dice < 5) {
            due("grains" + place, x.grains(board, cell, kind), y.grains(board, cell, kind));
        } else if (dice < 8) {
            due("needs" + place, x.needs(board, cell, kind), y.needs(board, cell, kind));
        } else if (dice < 12) {
            due("reason" + place, x.reason(board, cell, kind), y.reason(board, cell, kind));
        } else if (dice < 15) {
            int what = number(7);
            due("board(" + board + ", " + what + ")", x.board(board, what), y.board(board, what));
        } else if (dice < 16) {
            due("pan(" + board + ", " + kind + ")", x.pan(board, kind), y.pan(board, kind));
        } else if (dice < 18) {
            int what = number(3);
            due("kind(" + kind + ", " + what + ")", x.kind(kind, what), y.kind(kind, what));
        } else if (dice < 21) {
            int what = number(11);
            due("count(" + what + ")", x.count(what), y.count(what));
        } else {
            foresee(board, kind, dice);
        }
    }

    private void foresee(int board, int kind, int dice) {
        int angle = someAngle();
        if (dice < 23) {
            due("leastAngle(" + board + ")", x.leastAngle(board), y.leastAngle(board));
        } else if (dice < 25) {
            due("restsIn(" + board + ")", x.restsIn(board), y.restsIn(board));
        } else if (dice < 28) {
            int what = number(3);
            due("ifTilted(" + board + ", " + angle + ", " + what + ")",
                    x.ifTilted(board, angle, what), y.ifTilted(board, angle, what));
        } else if (dice < 29) {
            due("clearingAngle(" + board + ")", x.clearingAngle(board), y.clearingAngle(board));
        } else {
            boolean most = random.nextBoolean();
            due("weighs(" + kind + ", " + angle + ", " + most + ")",
                    x.weighs(kind, angle, most), y.weighs(kind, angle, most));
        }
    }
}
