import java.util.ArrayDeque;
import java.util.ArrayList;
import java.util.Arrays;
import java.util.Comparator;
import java.util.Deque;
import java.util.List;
import java.util.regex.Matcher;
import java.util.regex.Pattern;

/**
 * The document once more, written another way and without thrift, to compare with: worlds are
 * copied whole, what came in a tick is noted in new rows, and faults are found by trying prefixes.
 */
final class Model {
    private static final int UNKNOWN = -1;
    private static final int BAD_VALUE = -2;
    private static final int FULL = -3;
    private static final int NOT_POSSIBLE = -4;
    private static final int NONE = -5;
    private static final String ORDER =
            "(t[0-4]=(0|[1-8][0-9]?|90?)|p[0-4][0-7][0-3]\\*[1-9][0-9]?|[je][0-4]|\\.[1-9][0-9]?)";
    private static final Pattern TEXT = Pattern.compile(ORDER + "(;" + ORDER + ")*");

    private static final class World {
        int[] angle = new int[5];
        int[][][] lies = new int[5][8][4];
        boolean[][][] moves = new boolean[5][8][4];
        int[][] pan = new int[5][4];
        int[] fell = new int[5];
        int[] dust = new int[5];
        int[] grip = {20, 25, 30, 35};
        int[] setting = {5, 10, 20};
        int[] poured = new int[4];
        int emptied;
        int tick;

        World copy() {
            World w = new World();
            w.angle = angle.clone();
            for (int b = 0; b < 5; b++) {
                for (int c = 0; c < 8; c++) {
                    w.lies[b][c] = lies[b][c].clone();
                    w.moves[b][c] = moves[b][c].clone();
                }
                w.pan[b] = pan[b].clone();
            }
            w.fell = fell.clone();
            w.dust = dust.clone();
            w.grip = grip.clone();
            w.setting = setting.clone();
            w.poured = poured.clone();
            w.emptied = emptied;
            w.tick = tick;
            return w;
        }

        int on(int b, int c) {
            return Arrays.stream(lies[b][c]).sum();
        }

        int onBoard(int b) {
            int sum = 0;
            for (int c = 0; c < 8; c++) {
                sum += on(b, c);
            }
            return sum;
        }

        int needed(int b, int c, int k) {
            int angle = grip[k] + on(b, c) / setting[1];
            if (moves[b][c][k]) {
                angle -= setting[0];
            }
            return angle < 0 ? 0 : angle;
        }

        boolean slides(int b, int c, int k) {
            return lies[b][c][k] > 0 && angle[b] >= needed(b, c, k) && (c == 7 || on(b, c + 1) < 99);
        }

        boolean rests(int b) {
            for (int c = 0; c < 8; c++) {
                for (int k = 0; k < 4; k++) {
                    if (slides(b, c, k)) {
                        return false;
                    }
                }
            }
            return true;
        }

        void tickBoard(int b) {
            boolean[][] came = new boolean[8][4];
            List<Integer> kinds = new ArrayList<>(List.of(3, 2, 1, 0));
            kinds.sort(Comparator.<Integer>comparingInt(k -> grip[k]).thenComparingInt(k -> k));
            for (int c = 7; c >= 0; c--) {
                for (int k : kinds) {
                    if (slides(b, c, k)) {
                        int goes = c == 7 ? lies[b][c][k] : Math.min(lies[b][c][k], 99 - on(b, c + 1));
                        int lost = goes / setting[2];
                        lies[b][c][k] -= goes;
                        dust[b] += lost;
                        if (c == 7) {
                            pan[b][k] += goes - lost;
                            fell[b] += goes - lost;
                        } else {
                            lies[b][c + 1][k] += goes - lost;
                            came[c + 1][k] = goes - lost > 0;
                        }
                    }
                }
            }
            moves[b] = came;
        }
    }

    private World world = new World();
    private World kept;
    private final Deque<World> history = new ArrayDeque<>();
    private String text = "";
    private int stopOrder = NONE;
    private int stopError = NONE;

    private static boolean in(int value, int least, int most) {
        return least <= value && value <= most;
    }

    private static boolean known(int b, int c, int k) {
        return in(b, 0, 4) && in(c, 0, 7) && in(k, 0, 3);
    }

    private int act(World before, int answer) {
        if (answer >= 0) {
            history.addLast(before);
            if (history.size() > 4) {
                history.removeFirst();
            }
        }
        return answer;
    }

    private int change(int[] row, int at, int value) {
        int old = row[at];
        row[at] = value;
        return old == value ? NONE : old;
    }

    int tilt(int b, int angle) {
        World before = world.copy();
        return act(before, doTilt(b, angle));
    }

    private int doTilt(int b, int angle) {
        return !in(b, 0, 4) ? UNKNOWN : !in(angle, 0, 90) ? BAD_VALUE : change(world.angle, b, angle);
    }

    int pour(int b, int c, int k, int grains) {
        World before = world.copy();
        return act(before, doPour(b, c, k, grains));
    }

    private int doPour(int b, int c, int k, int grains) {
        if (!known(b, c, k)) {
            return UNKNOWN;
        }
        if (!in(grains, 1, 99)) {
            return BAD_VALUE;
        }
        if (grains > 99 - world.on(b, c)) {
            return FULL;
        }
        world.poured[k] += grains;
        return world.lies[b][c][k] += grains;
    }

    int jolt(int b) {
        World before = world.copy();
        return act(before, doJolt(b));
    }

    private int doJolt(int b) {
        if (!in(b, 0, 4)) {
            return UNKNOWN;
        }
        int heaps = 0;
        for (int c = 0; c < 8; c++) {
            for (int k = 0; k < 4; k++) {
                if (world.lies[b][c][k] > 0) {
                    world.moves[b][c][k] = true;
                    heaps++;
                }
            }
        }
        return heaps == 0 ? NONE : heaps;
    }

    int emptyPan(int b) {
        World before = world.copy();
        return act(before, doEmptyPan(b));
    }

    private int doEmptyPan(int b) {
        if (!in(b, 0, 4)) {
            return UNKNOWN;
        }
        int sum = Arrays.stream(world.pan[b]).sum();
        world.pan[b] = new int[4];
        world.emptied += sum;
        return sum == 0 ? NONE : sum;
    }

    int setGrip(int k, int grip) {
        World before = world.copy();
        return act(before, !in(k, 0, 3) ? UNKNOWN : !in(grip, 0, 80) ? BAD_VALUE : change(world.grip, k, grip));
    }

    int set(int which, int value) {
        World before = world.copy();
        boolean fits = which == 0 ? in(value, 0, 30) : which == 1 ? in(value, 1, 99) : in(value, 2, 99);
        return act(before, !in(which, 0, 2) ? UNKNOWN : !fits ? BAD_VALUE : change(world.setting, which, value));
    }

    int pass(int ticks) {
        World before = world.copy();
        return act(before, doPass(ticks));
    }

    private int doPass(int ticks) {
        if (!in(ticks, 1, 99)) {
            return BAD_VALUE;
        }
        if (world.tick + ticks > 99999) {
            return FULL;
        }
        int before = Arrays.stream(world.fell).sum();
        for (int i = 0; i < ticks; i++) {
            for (int b = 0; b < 5; b++) {
                world.tickBoard(b);
            }
        }
        world.tick += ticks;
        return Arrays.stream(world.fell).sum() - before;
    }

    int type(char sign) {
        if (text.length() == 60) {
            return FULL;
        }
        text += sign;
        return text.length();
    }

    int clearText() {
        int length = text.length();
        text = "";
        return length;
    }

    private int fault() {
        for (int length = 1; length <= text.length(); length++) {
            Matcher matcher = TEXT.matcher(text.substring(0, length));
            if (!matcher.matches() && !matcher.hitEnd()) {
                return length - 1;
            }
        }
        return TEXT.matcher(text).matches() ? -1 : text.length();
    }

    int perform() {
        int fault = fault();
        if (fault >= 0) {
            return -100 - fault;
        }
        World before = world.copy();
        String[] orders = text.split(";");
        for (int i = 0; i < orders.length; i++) {
            int answer = carryOut(orders[i]);
            if (answer < 0 && answer != NONE) {
                world = before;
                stopOrder = i;
                stopError = answer;
                return NOT_POSSIBLE;
            }
        }
        return act(before, orders.length);
    }

    private int carryOut(String order) {
        char verb = order.charAt(0);
        if (verb == '.') {
            return doPass(Integer.parseInt(order.substring(1)));
        }
        int b = order.charAt(1) - '0';
        if (verb == 't') {
            return doTilt(b, Integer.parseInt(order.substring(3)));
        }
        if (verb == 'p') {
            int grains = Integer.parseInt(order.substring(5));
            return doPour(b, order.charAt(2) - '0', order.charAt(3) - '0', grains);
        }
        return verb == 'j' ? doJolt(b) : doEmptyPan(b);
    }

    int stopped(int what) {
        return what == 0 ? stopOrder : what == 1 ? stopError : BAD_VALUE;
    }

    int undo() {
        if (history.isEmpty()) {
            return NONE;
        }
        world = history.removeLast();
        return history.size();
    }

    int keep() {
        kept = world.copy();
        return world.tick;
    }

    int restore() {
        if (kept == null) {
            return NONE;
        }
        World before = world;
        world = kept.copy();
        return act(before, world.tick);
    }

    int grains(int b, int c, int k) {
        return known(b, c, k) ? world.lies[b][c][k] : UNKNOWN;
    }

    int board(int b, int what) {
        if (!in(b, 0, 4)) {
            return UNKNOWN;
        }
        int heaps = 0;
        int moving = 0;
        for (int c = 0; c < 8; c++) {
            for (int k = 0; k < 4; k++) {
                heaps += world.lies[b][c][k] > 0 ? 1 : 0;
                moving += world.lies[b][c][k] > 0 && world.moves[b][c][k] ? 1 : 0;
            }
        }
        int[] told = {world.angle[b], world.onBoard(b), Arrays.stream(world.pan[b]).sum(), world.fell[b],
            world.dust[b], heaps, moving, world.rests(b) ? 1 : 0};
        return in(what, 0, 7) ? told[what] : BAD_VALUE;
    }

    int pan(int b, int k) {
        return in(b, 0, 4) && in(k, 0, 3) ? world.pan[b][k] : UNKNOWN;
    }

    int kind(int k, int what) {
        if (!in(k, 0, 3)) {
            return UNKNOWN;
        }
        int onCells = 0;
        int inPans = 0;
        for (int b = 0; b < 5; b++) {
            for (int c = 0; c < 8; c++) {
                onCells += world.lies[b][c][k];
            }
            inPans += world.pan[b][k];
        }
        int[] told = {world.grip[k], onCells, inPans, world.poured[k]};
        return in(what, 0, 3) ? told[what] : BAD_VALUE;
    }

    int needs(int b, int c, int k) {
        return !known(b, c, k) ? UNKNOWN : world.lies[b][c][k] == 0 ? NONE : world.needed(b, c, k);
    }

    int reason(int b, int c, int k) {
        if (!known(b, c, k)) {
            return UNKNOWN;
        }
        if (world.slides(b, c, k)) {
            return 0;
        }
        return world.lies[b][c][k] == 0 ? 1 : world.angle[b] < world.needed(b, c, k) ? 2 : 3;
    }

    int leastAngle(int b) {
        if (!in(b, 0, 4)) {
            return UNKNOWN;
        }
        for (int angle = 0; angle <= 90; angle++) {
            World trial = world.copy();
            trial.angle[b] = angle;
            if (!trial.rests(b)) {
                return angle;
            }
        }
        return NONE;
    }

    int restsIn(int b) {
        if (!in(b, 0, 4)) {
            return UNKNOWN;
        }
        World trial = world.copy();
        for (int ticks = 0; ticks <= 300; ticks++) {
            if (trial.rests(b)) {
                return ticks;
            }
            trial.tickBoard(b);
        }
        return NONE;
    }

    int ifTilted(int b, int angle, int what) {
        if (!in(b, 0, 4)) {
            return UNKNOWN;
        }
        if (!in(angle, 0, 90) || !in(what, 0, 3)) {
            return BAD_VALUE;
        }
        World trial = world.copy();
        trial.angle[b] = angle;
        int ticks = 0;
        while (!trial.rests(b) && ticks < 300) {
            trial.tickBoard(b);
            ticks++;
        }
        int[] told = {ticks, trial.fell[b] - world.fell[b], trial.dust[b] - world.dust[b], trial.onBoard(b)};
        return told[what];
    }

    int clearingAngle(int b) {
        if (!in(b, 0, 4)) {
            return UNKNOWN;
        }
        for (int angle = 0; angle <= 90; angle++) {
            if (ifTilted(b, angle, 3) == 0) {
                return angle;
            }
        }
        return NONE;
    }

    int weighs(int k, int angle, boolean most) {
        if (!in(k, 0, 3)) {
            return UNKNOWN;
        }
        if (!in(angle, 0, 90)) {
            return BAD_VALUE;
        }
        List<Integer> fits = new ArrayList<>();
        for (int grains = 1; grains <= 99; grains++) {
            if (world.grip[k] + grains / world.setting[1] == angle) {
                fits.add(grains);
            }
        }
        return fits.isEmpty() ? NONE : fits.get(most ? fits.size() - 1 : 0);
    }

    int count(int what) {
        int[] told = new int[12];
        told[0] = world.tick;
        for (int b = 0; b < 5; b++) {
            told[1] += world.onBoard(b);
            told[2] += Arrays.stream(world.pan[b]).sum();
            told[3] += world.dust[b];
            told[6] += world.rests(b) ? 1 : 0;
        }
        told[4] = Arrays.stream(world.poured).sum();
        told[5] = world.emptied;
        System.arraycopy(world.setting, 0, told, 7, 3);
        told[10] = history.size();
        told[11] = text.length();
        return in(what, 0, 11) ? told[what] : BAD_VALUE;
    }
}
