/** Counts the answers that are as due and prints those that are not. */
final class Checks {
    private int right;
    private int wrong;

    void due(String call, int got, int want) {
        if (got == want) {
            right++;
            return;
        }
        wrong++;
        System.out.println(call + " answered " + got + ", due is " + want);
    }

    void due(String what, boolean holds) {
        due(what, holds ? 1 : 0, 1);
    }

    /** Ends the program, with 1 if anything was wrong or nothing was looked at. */
    void end(String name) {
        System.out.println(name + ": " + right + " right, " + wrong + " wrong");
        if (wrong != 0 || right == 0) {
            System.exit(1);
        }
    }

    /** Numbers that are no board, cell, kind, setting, angle or number of grains. */
    static final int[] WRONG = {-1, -2, -5, 100, 127, 128, 256, 65536, Integer.MAX_VALUE, Integer.MIN_VALUE};

    static void typeAll(TiltBoards x, String text) {
        for (int i = 0; i < text.length(); i++) {
            x.type(text.charAt(i));
        }
    }

    /** Empties the text, types another one and performs it. */
    static int perform(TiltBoards x, String text) {
        x.clearText();
        typeAll(x, text);
        return x.perform();
    }
}
