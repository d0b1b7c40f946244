/** Promises 9 to 12: the text and the orders in it. */
public final class TextsTest {
    private static final Checks CHECKS = new Checks();

    private static void due(String call, int got, int want) {
        CHECKS.due(call, got, want);
    }

    private static void fault(String text, int at) {
        TiltBoards x = new TiltBoards();
        due("perform() of '" + text + "'", Checks.perform(x, text), -100 - at);
        due("no state for '" + text + "'", x.count(10), 0);
        due("no stop for '" + text + "'", x.stopped(0), TiltBoards.NONE);
        due("the text stays '" + text + "'", x.count(11), text.length());
    }

    private static void fine(String text, int orders) {
        TiltBoards x = new TiltBoards();
        due("perform() of '" + text + "'", Checks.perform(x, text), orders);
        due("one state for '" + text + "'", x.count(10), 1);
        due("the text stays '" + text + "'", x.count(11), text.length());
    }

    public static void main(String[] args) {
        type();
        clearText();
        nothingBehindTheText();
        textsWithoutFault();
        textsThatEndTooEarly();
        faultsInTilts();
        faultsInPours();
        faultsInOthers();
        strangeSigns();
        performAll();
        performNone();
        performIsOneAct();
        stopped();
        CHECKS.end("TextsTest");
    }

    private static void type() {
        TiltBoards x = new TiltBoards();
        for (int i = 1; i <= 60; i++) {
            due("type", x.type((char) (i * 1000)), i);
            due("length", x.count(11), i);
        }
        due("type the 61st", x.type('t'), TiltBoards.FULL);
        due("type the 61st again", x.type((char) 0), TiltBoards.FULL);
        due("length", x.count(11), 60);
        due("no act", x.count(10), 0);
    }

    private static void clearText() {
        TiltBoards x = new TiltBoards();
        due("clearText() of the empty one", x.clearText(), 0);
        Checks.typeAll(x, "j0;j0");
        due("clearText()", x.clearText(), 5);
        due("length", x.count(11), 0);
        due("clearText() again", x.clearText(), 0);
        due("perform()", x.perform(), -100);
        Checks.typeAll(x, "j1");
        due("nothing is left of the old text", x.perform(), 1);
        due("one act", x.count(10), 1);
        x.clearText();
        due("clearText() is no act", x.count(10), 1);
    }

    /** What stood behind the text before it was emptied is not read, nor what is beyond its room. */
    private static void nothingBehindTheText() {
        String[] whole = {"t1=23", "p123*45", "j3", "e3", ".67", "j0;j0"};
        for (String text : whole) {
            for (int length = 0; length < text.length(); length++) {
                String part = text.substring(0, length);
                int fresh = Checks.perform(new TiltBoards(), part);
                TiltBoards x = new TiltBoards();
                Checks.typeAll(x, text);
                due("'" + part + "' after '" + text + "'", Checks.perform(x, part), fresh);
            }
        }
        String[] parts = {"t", "t0", "t0=", "p", "p0", "p00", "p000", "p000*", "j", "e", "."};
        for (String part : parts) {
            fault(upTo(60 - part.length()) + part, 60);
        }
    }

    /** Orders with a ";" behind each, of so many signs in all, which are at least 4. */
    private static String upTo(int length) {
        StringBuilder orders = new StringBuilder();
        while (length - orders.length() >= 7) {
            orders.append("j0;");
        }
        String[] last = {".10;", "t0=5;", "j0;j0;"};
        return orders.append(last[length - orders.length() - 4]).toString();
    }

    private static void textsWithoutFault() {
        fine("t0=0", 1);
        fine("t4=90", 1);
        fine("t0=9", 1);
        fine("t0=10", 1);
        fine("t0=89", 1);
        fine("p000*1", 1);
        fine("p473*99", 1);
        fine("p000*10", 1);
        fine("j0", 1);
        fine("j4", 1);
        fine("e0", 1);
        fine("e4", 1);
        fine(".1", 1);
        fine(".99", 1);
        fine(".10", 1);
        fine("j0;j0", 2);
        fine("t1=0;p000*5;j3;e3;.5", 5);
        fine("j0;j0;j0;j0;j0;j0;j0;j0;j0;j0;j0;j0;j0;j0;j0;j0;j0;j0;j0;j0", 20);
        fine("t0=5;t0=5;t0=5;t0=5;t0=5;t0=5;t0=5;t0=5;t0=5;t0=5;t0=5;t0=50", 12);
    }

    private static void textsThatEndTooEarly() {
        String[] whole = {"t0=", "p000*", "j", "e", "."};
        fault("", 0);
        for (String text : whole) {
            for (int length = 1; length <= text.length(); length++) {
                fault(text.substring(0, length), length);
                fault("j0;" + text.substring(0, length), 3 + length);
            }
        }
        fault("j0;", 3);
        fault("t0=5;", 5);
        fault(".99;.99;.99;.99;.99;.99;.99;.99;.99;.99;.99;.99;.99;.99;.99;", 60);
    }

    private static void faultsInTilts() {
        fault("t5=0", 1);
        fault("t=", 1);
        fault("t0:5", 2);
        fault("t00=5", 2);
        fault("t0==5", 3);
        fault("t0=-5", 3);
        fault("t0=05", 4);
        fault("t0=00", 4);
        fault("t0=91", 4);
        fault("t0=99", 4);
        fault("t0=100", 5);
        fault("t0=900", 5);
        fault("t0=5;;", 5);
        fault("t0=5 ", 4);
        fault("t0=5;x", 5);
    }

    private static void faultsInPours() {
        fault("p5", 1);
        fault("p08", 2);
        fault("p09", 2);
        fault("p004", 3);
        fault("p000=5", 4);
        fault("p0000*5", 4);
        fault("p000*0", 5);
        fault("p000*05", 5);
        fault("p000*100", 7);
        fault("p000*999", 7);
        fault("p000*5*", 6);
        fault("p000**", 5);
    }

    private static void faultsInOthers() {
        fault("j5", 1);
        fault("j00", 2);
        fault("j0=5", 2);
        fault("e5", 1);
        fault("e01", 2);
        fault(".0", 1);
        fault(".01", 1);
        fault(".100", 3);
        fault(".5.5", 2);
        fault(";j0", 0);
        fault(";", 0);
        fault("j0;;j0", 3);
        fault("j0j0", 2);
        fault("j0;0", 3);
        fault("T0=5", 0);
        fault("J0", 0);
        fault(" j0", 0);
        fault("0", 0);
    }

    private static void strangeSigns() {
        fault("\0", 0);
        fault("j\0", 1);
        fault("t0=5\0", 4);
        fault("j\u0660", 1);
        fault("\uffff", 0);
        // 0x174 and 0x130 have the low bytes of 't' and '0'.
        fault("\u0174" + "0=5", 0);
        fault("t\u0130=5", 1);
        fault("t0=\uff15", 3);
        fault("t0=1\u0130", 4);
        fault("t0=1:", 4);
        fault("t0=1/", 4);
        fault("t0=:", 3);
        fault("t0=/", 3);
    }

    private static void performAll() {
        TiltBoards x = new TiltBoards();
        due("perform()", Checks.perform(x, "t0=90;p070*40;p341*7;t3=12;j3;.1;e0"), 7);
        due("angle of 0", x.board(0, 0), 90);
        due("angle of 3", x.board(3, 0), 12);
        due("grains(3, 4, 1)", x.grains(3, 4, 1), 7);
        due("poured", x.count(4), 47);
        due("tick", x.count(0), 1);
        due("emptied", x.count(5), 38);
        due("in pans", x.count(2), 0);
        due("the jolt is over", x.board(3, 6), 0);
        due("text", x.count(11), 35);
        due("perform() again", Checks.perform(x, "j3;p340*1"), 2);
        due("jolted before the other heap came", x.board(3, 6), 1);
    }

    private static void performNone() {
        TiltBoards x = new TiltBoards();
        x.tilt(0, 5);
        x.jolt(0);
        int states = x.count(10);
        due("perform()", Checks.perform(x, "t0=90;p000*60;j0;.5;e0;p070*99;p071*1"), TiltBoards.NOT_POSSIBLE);
        due("stopped(0)", x.stopped(0), 6);
        due("stopped(1)", x.stopped(1), TiltBoards.FULL);
        due("angle", x.board(0, 0), 5);
        due("sand", x.count(1), 0);
        due("poured", x.count(4), 0);
        due("moving", x.board(0, 6), 0);
        due("dust", x.count(3), 0);
        due("tick", x.count(0), 0);
        due("states", x.count(10), states);
        due("text", x.count(11), 37);
    }

    private static void performIsOneAct() {
        TiltBoards x = new TiltBoards();
        x.tilt(4, 1);
        due("perform()", Checks.perform(x, "t0=9;p000*5;t1=8;p100*6;t2=7;.9"), 6);
        due("states", x.count(10), 2);
        due("undo()", x.undo(), 1);
        due("angle", x.board(2, 0), 0);
        due("sand", x.count(1), 0);
        due("tick", x.count(0), 0);
        due("angle of 4", x.board(4, 0), 1);
        due("orders that answer NONE are an act too", Checks.perform(x, "j0;e1;t4=1"), 3);
        due("states", x.count(10), 2);
        due("no stop", x.stopped(1), TiltBoards.NONE);
    }

    private static void stopped() {
        TiltBoards x = new TiltBoards();
        for (int wrong : Checks.WRONG) {
            due("stopped(" + wrong + ")", x.stopped(wrong), TiltBoards.BAD_VALUE);
        }
        due("stopped(2)", x.stopped(2), TiltBoards.BAD_VALUE);
        due("stopped(0)", x.stopped(0), TiltBoards.NONE);
        due("stopped(1)", x.stopped(1), TiltBoards.NONE);
        x.pour(0, 0, 0, 99);
        due("perform()", Checks.perform(x, "p001*1;p000*1"), TiltBoards.NOT_POSSIBLE);
        due("stopped(0)", x.stopped(0), 0);
        due("stopped(1)", x.stopped(1), TiltBoards.FULL);
        due("perform()", Checks.perform(x, "j0;e0;p001*1"), TiltBoards.NOT_POSSIBLE);
        due("the latest stop", x.stopped(0), 2);
        due("a fault is no stop", Checks.perform(x, "j0;x"), -103);
        due("stopped(0)", x.stopped(0), 2);
        due("a text that is carried out is no stop", Checks.perform(x, "j0"), 1);
        due("stopped(0)", x.stopped(0), 2);
        x.undo();
        x.keep();
        x.restore();
        due("the stop is in no state", x.stopped(0), 2);
        due("stopped(1)", x.stopped(1), TiltBoards.FULL);
    }
}
