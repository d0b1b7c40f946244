import java.util.function.Consumer;

/**
 * Promises 9 to 12 and the terms of texts at their edges: at each place of an order every sign, the
 * numbers at both ends of their ranges, the text at its full length, and each cause of a stop.
 */
public final class EdgesOfTextsTest {
    private static final Checks CHECKS = new Checks();
    private static final Twins TWINS = new Twins(CHECKS);
    private static final int FULL = TiltBoards.FULL;
    private static final int NOT_POSSIBLE = TiltBoards.NOT_POSSIBLE;
    private static final int NONE = TiltBoards.NONE;
    private static final String DIGITS = "0123456789";
    private static final String VERBS = "tpje.";
    /** The longest text of full orders, 59 signs, and 20 orders. */
    private static final String TWENTY = "j0;j0;j0;j0;j0;j0;j0;j0;j0;j0;j0;j0;j0;j0;j0;j0;j0;j0;j0;j0";

    private static void due(String call, int got, int want) {
        CHECKS.due(call, got, want);
    }

    public static void main(String[] args) {
        typeUpToTheLastSign();
        typeAnySign();
        typeRefused();
        clearTextOfAnyLength();
        clearTextChangesNothingElse();
        nothingReadBehindTheEnd();
        signsOfTilts();
        signsOfPours();
        signsOfJoltsAndPans();
        signsOfTicks();
        signsBetweenOrders();
        faultsFromFirstToLastSign();
        allNumbers();
        oneOrderAndTwenty();
        faultRefused();
        faultAheadOfStop();
        stopRefused();
        stopAtTheLastTick();
        noneDoesNotStop();
        allOrNone();
        ordersAsTheirActs();
        performIsOneAct();
        stoppedAtItsEdges();
        stoppedTellsTheLatest();
        CHECKS.end("EdgesOfTextsTest");
    }

    // "There is a text of at most 60 characters, empty at first"; "FULL if it has 60 characters"
    private static void typeUpToTheLastSign() {
        TiltBoards x = new TiltBoards();
        due("empty at first", x.count(11), 0);
        for (int length = 1; length <= 60; length++) {
            due("type()", x.type(TWENTY.charAt(length % 59)), length);
            due("length", x.count(11), length);
        }
        due("the 61st", x.type('j'), FULL);
        due("length", x.count(11), 60);
        due("clearText()", x.clearText(), 60);
        due("the first", x.type('j'), 1);
        due("the second", x.type('3'), 2);
        due("nothing is left of the old text", x.perform(), 1);
    }

    // "any character"
    private static void typeAnySign() {
        int[] signs = {0, 1, 9, 10, 13, 32, 127, 128, 255, 256, 0x7fff, 0x8000, 0xd800, 0xdfff, 0xfffe, 0xffff};
        for (int sign : signs) {
            TiltBoards x = new TiltBoards();
            due("type(" + sign + ")", x.type((char) sign), 1);
            due("it is a fault", x.perform(), -100);
            x.clearText();
            Checks.typeAll(x, "j0");
            due("type(" + sign + ")", x.type((char) sign), 3);
            due("it is a fault", x.perform(), -102);
        }
    }

    private static void typeRefused() {
        Consumer<TiltBoards> full = x -> {
            x.pour(0, 7, 0, 9);
            x.tilt(0, 90);
            Checks.typeAll(x, TWENTY.substring(0, 54) + "t0=9;.");
        };
        TWINS.unchanged("type('1') behind 60 signs", full, x -> x.type('1'), FULL);
        TWINS.unchanged("type('j') behind 60 signs", full, x -> x.type('j'), FULL);
        TWINS.unchanged("type(0) behind 60 signs", full, x -> x.type((char) 0), FULL);
        Consumer<TiltBoards> early = x -> Checks.typeAll(x, TWENTY.substring(0, 54) + "t0=9;e");
        TWINS.unchanged("type('0') behind 60 signs", early, x -> x.type('0'), FULL);
        TiltBoards x = new TiltBoards();
        Checks.typeAll(x, TWENTY.substring(0, 54) + ".1;t0=");
        due("60 signs", x.count(11), 60);
        due("a digit that finds no room", x.type('9'), FULL);
        due("it is no part of the text", x.perform(), -160);
    }

    // "Returns the length that it had": 0, 1, 59, 60
    private static void clearTextOfAnyLength() {
        for (int length = 0; length <= 60; length++) {
            TiltBoards x = new TiltBoards();
            for (int i = 0; i < length; i++) {
                x.type('t');
            }
            due("clearText()", x.clearText(), length);
            due("length", x.count(11), 0);
            due("clearText() of the empty text", x.clearText(), 0);
            due("the empty text has a fault at 0", x.perform(), -100);
        }
    }

    private static void clearTextChangesNothingElse() {
        Consumer<TiltBoards> noText = x -> {
            Twins.busy(x);
            x.clearText();
        };
        TWINS.unchanged("clearText() of the empty text", noText, TiltBoards::clearText, 0);
        TWINS.sameStateAndHistory("clearText() of another text", noText, x -> {
            Twins.busy(x);
            Checks.typeAll(x, ";e0");
            x.clearText();
        });
        TiltBoards x = new TiltBoards();
        Twins.busy(x);
        x.clearText();
        due("the stop stays", x.stopped(0), 1);
        due("its error stays", x.stopped(1), FULL);
        due("the history stays", x.count(10), 4);
    }

    /** A text that ends too early is not read on into what stood there before. */
    private static void nothingReadBehindTheEnd() {
        String[] whole = {"t4=90", "p473*99", "j4", "e4", ".99", "j0;j0"};
        for (String text : whole) {
            for (int length = 0; length < text.length(); length++) {
                TiltBoards x = new TiltBoards();
                Checks.typeAll(x, text);
                String early = text.substring(0, length);
                due("'" + early + "' where '" + text + "' was", Checks.perform(x, early), fresh(early));
            }
        }
        String[] early = {"t", "t0", "t0=", "p", "p0", "p00", "p000", "p000*", "j", "e", "."};
        for (String part : early) {
            String head = part.length() % 3 == 0 ? "" : part.length() % 3 == 1 ? "t0=9;" : "p473*9;";
            int signs = 60 - head.length() - part.length();
            String text = head + TWENTY.substring(0, signs - 1) + ";" + part;
            due("length of '" + text + "'", text.length(), 60);
            due("'" + text + "'", fresh(text), -160);
        }
    }

    /** Behind what has been read, just these signs are allowed, and the end if it is a whole text. */
    private static void allowed(String read, String signs, boolean mayEnd) {
        int length = read.length();
        int orders = read.length() - read.replace(";", "").length() + 1;
        due("'" + read + "'", fresh(read), mayEnd ? orders : -100 - length);
        for (int sign = 0; sign < 400; sign++) {
            due("'" + read + "' and " + sign, faultAt(read, (char) sign), signs.indexOf(sign) >= 0 ? -1 : length);
        }
        for (int i = 0; i < DIGITS.length(); i++) {
            // Digits of other scripts, and signs whose low byte is a digit's or a verb's.
            due("another zero's " + i, faultAt(read, (char) (0x660 + i)), length);
            due("a wide " + i, faultAt(read, (char) (0xff10 + i)), length);
            due("a low byte's " + i, faultAt(read, (char) (0x8000 + DIGITS.charAt(i))), length);
        }
        for (int i = 0; i < VERBS.length(); i++) {
            due("a low byte's verb", faultAt(read, (char) (0xff00 + VERBS.charAt(i))), length);
        }
        due("the last sign", faultAt(read, (char) 0xffff), length);
    }

    private static int fresh(String text) {
        return Checks.perform(new TiltBoards(), text);
    }

    /** The fault if it is at the last sign, -1 if that is allowed there. */
    private static int faultAt(String read, char sign) {
        int answer = fresh(read + sign);
        return answer == -100 - read.length() ? read.length() : answer >= 1 || answer == -101 - read.length() ? -1 : -2;
    }

    // "t", a board, "=" and an angle (0 to 90: it is tilted)
    private static void signsOfTilts() {
        String[] heads = {"", "j4;", ".99;"};
        for (String head : heads) {
            allowed(head + "t", "01234", false);
            allowed(head + "t0", "=", false);
            allowed(head + "t4", "=", false);
            allowed(head + "t0=", DIGITS, false);
            // "Numbers have no zero in front, unless they are the single digit 0"
            allowed(head + "t0=0", ";", true);
            allowed(head + "t0=1", DIGITS + ";", true);
            allowed(head + "t0=8", DIGITS + ";", true);
            // "a digit by which a number would be greater than told is not allowed"
            allowed(head + "t0=9", "0;", true);
            allowed(head + "t0=10", ";", true);
            allowed(head + "t0=89", ";", true);
            allowed(head + "t4=90", ";", true);
        }
    }

    // "p", a board, a cell, a kind, "*" and grains (1 to 99: they are poured)
    private static void signsOfPours() {
        String[] heads = {"", "e0;", "t4=90;"};
        for (String head : heads) {
            allowed(head + "p", "01234", false);
            allowed(head + "p0", "01234567", false);
            allowed(head + "p4", "01234567", false);
            allowed(head + "p00", "0123", false);
            allowed(head + "p47", "0123", false);
            allowed(head + "p000", "*", false);
            allowed(head + "p473", "*", false);
            allowed(head + "p000*", "123456789", false);
            allowed(head + "p000*1", DIGITS + ";", true);
            allowed(head + "p000*9", DIGITS + ";", true);
            allowed(head + "p000*10", ";", true);
            allowed(head + "p473*99", ";", true);
        }
    }

    // "j" and a board (it is jolted); "e" and a board (its pan is emptied)
    private static void signsOfJoltsAndPans() {
        String[] heads = {"", ".1;", "p473*9;"};
        for (String head : heads) {
            allowed(head + "j", "01234", false);
            allowed(head + "j0", ";", true);
            allowed(head + "j4", ";", true);
            allowed(head + "e", "01234", false);
            allowed(head + "e0", ";", true);
            allowed(head + "e4", ";", true);
        }
    }

    // "." and ticks (1 to 99: they pass)
    private static void signsOfTicks() {
        String[] heads = {"", "j0;", "t0=0;"};
        for (String head : heads) {
            allowed(head + ".", "123456789", false);
            allowed(head + ".1", DIGITS + ";", true);
            allowed(head + ".9", DIGITS + ";", true);
            allowed(head + ".10", ";", true);
            allowed(head + ".99", ";", true);
        }
    }

    // "one or more of these with ';' between two"; "the empty text does" (end too early)
    private static void signsBetweenOrders() {
        allowed("", VERBS, false);
        allowed("t0=5;", VERBS, false);
        allowed("p000*5;", VERBS, false);
        allowed("j0;", VERBS, false);
        allowed("e0;", VERBS, false);
        allowed(".5;", VERBS, false);
        allowed("j0;e1;.3;", VERBS, false);
    }

    // "the index, from 0, of the first character that is not allowed at its place"
    private static void faultsFromFirstToLastSign() {
        for (int at = 0; at < 59; at++) {
            String text = TWENTY.substring(0, at) + "x" + TWENTY.substring(at + 1);
            due("a fault at " + at, fresh(text), -100 - at);
            due("the first of two faults", fresh(text.substring(0, 58) + "?"), -100 - at);
            due("a text cut at " + at, fresh(TWENTY.substring(0, at)), at % 3 == 2 ? at / 3 + 1 : -100 - at);
        }
        due("a fault at 59", fresh(TWENTY + "0"), -159);
        due("60 signs that end too early", fresh(TWENTY + ";"), -160);
        due("60 signs that end too early", fresh(TWENTY.substring(0, 57) + "p00"), -160);
        due("60 signs that end too early", fresh(TWENTY.substring(0, 54) + "t0=90;"), -160);
        due("60 signs that end well", fresh(TWENTY.substring(0, 48) + "t0=9;p000*99"), 18);
    }

    private static void allNumbers() {
        for (int number = 0; number <= 120; number++) {
            int digits = number < 10 ? 1 : number < 100 ? 2 : 3;
            due("t0=" + number, fresh("t0=" + number), number <= 90 ? 1 : number < 100 ? -104 : -105);
            boolean fits = number >= 1 && number <= 99;
            due("p000*" + number, fresh("p000*" + number), fits ? 1 : number == 0 ? -105 : -100 - 4 - digits);
            due("." + number, fresh("." + number), fits ? 1 : number == 0 ? -101 : -100 - digits);
            due("t0=0" + number, fresh("t0=0" + number), -104);
            due("p000*0" + number, fresh("p000*0" + number), -105);
            due(".0" + number, fresh(".0" + number), -101);
        }
        for (int number = 1; number <= 99; number++) {
            TiltBoards x = new TiltBoards();
            x.tilt(0, number % 90 + 1);
            due("perform()", Checks.perform(x, "t4=" + number % 91 + ";p473*" + number + ";." + number), 3);
            due("angle", x.board(4, 0), number % 91);
            due("grains", x.kind(3, 3), number);
            due("tick", x.count(0), number);
        }
        due("a long number", fresh("t0=4294967296"), -105);
        due("a long number", fresh(".4294967297"), -103);
    }

    // "Returns how many orders there are"
    private static void oneOrderAndTwenty() {
        for (int orders = 1; orders <= 20; orders++) {
            String text = TWENTY.substring(0, orders * 3 - 1);
            due(orders + " orders", fresh(text), orders);
            due(orders + " orders and more", fresh(text + ";"), -100 - orders * 3);
        }
    }

    private static void faultRefused() {
        String[] texts = {"", "x", "t0=91", "p000*99;", ".99;j", "t0=9;p070*9;.9;e0;p000*0", TWENTY + ";", TWENTY + "x"};
        for (String text : texts) {
            Consumer<TiltBoards> made = x -> {
                Twins.busy(x);
                x.clearText();
                Checks.typeAll(x, text);
            };
            TWINS.unchanged("perform() of '" + text + "'", made, TiltBoards::perform, fresh(text));
            CHECKS.due("it has a fault", fresh(text) <= -100);
            TWINS.unchanged("perform() of '" + text + "' at first", x -> Checks.typeAll(x, text),
                    TiltBoards::perform, fresh(text));
        }
    }

    /** A text with a fault is not carried out at all: an order that would be stopped is not met. */
    private static void faultAheadOfStop() {
        TiltBoards x = new TiltBoards();
        due("perform()", Checks.perform(x, "p000*99;p000*1;j5"), -116);
        due("no stop", x.stopped(0), NONE);
        due("perform()", Checks.perform(x, "p000*99;p000*1;j4"), NOT_POSSIBLE);
        due("a stop", x.stopped(0), 1);
        due("perform()", Checks.perform(x, "p000*99;j0;p000*1;"), -118);
        due("the stop that was", x.stopped(0), 1);
    }

    // "NOT_POSSIBLE if any is stopped"; "one that would return an error stops it"
    private static void stopRefused() {
        String[] texts = {"p200*1", "t0=0;t4=90;p070*9;j1;e0;.9;p200*1", "p213*2", "p212*1;p211*1", "p400*98;p401*2"};
        int[] orders = {0, 6, 0, 1, 1};
        for (int i = 0; i < texts.length; i++) {
            String text = texts[i];
            Consumer<TiltBoards> made = x -> {
                Twins.busy(x);
                x.clearText();
                Checks.typeAll(x, text);
            };
            TWINS.unchangedButStop("perform() of '" + text + "'", made, TiltBoards::perform, NOT_POSSIBLE);
            TiltBoards x = new TiltBoards();
            made.accept(x);
            x.perform();
            due("the order of '" + text + "'", x.stopped(0), orders[i]);
            due("its error", x.stopped(1), FULL);
        }
        // 98 lie there: one grain more is no stop.
        TiltBoards x = new TiltBoards();
        Twins.busy(x);
        due("perform()", Checks.perform(x, "p212*1"), 1);
    }

    /** 99999 is passed within a text: the tick of the orders ahead counts. */
    private static void stopAtTheLastTick() {
        Consumer<TiltBoards> made = x -> {
            Checks.typeAll(x, ".99;.99;.99;.99;.99;.99;.99;.99;.99;.99;.99;.99;.99;.99;.99");
            for (int i = 0; i < 67; i++) {
                x.perform();
            }
            for (int i = 0; i < 4; i++) {
                x.pass(99);
            }
            x.clearText();
        };
        TiltBoards x = new TiltBoards();
        made.accept(x);
        due("tick", x.count(0), 99891);
        due("99 and 10 ticks", Checks.perform(x, ".99;.10"), NOT_POSSIBLE);
        due("the order", x.stopped(0), 1);
        due("its error", x.stopped(1), FULL);
        due("tick", x.count(0), 99891);
        due("99 and 9 ticks", Checks.perform(x, ".99;.9"), 2);
        due("tick", x.count(0), 99999);
        due("one more", Checks.perform(x, "t0=1;t1=1;.1"), NOT_POSSIBLE);
        due("the order", x.stopped(0), 2);
        due("angle", x.board(0, 0), 0);
        due("without ticks", Checks.perform(x, "t0=1;t1=1"), 2);
        TWINS.unchangedButStop("perform() beyond 99999", made.andThen(y -> Checks.typeAll(y, "p000*9;.99;.10")),
                TiltBoards::perform, NOT_POSSIBLE);
    }

    // "One that would return NONE does not stop it"
    private static void noneDoesNotStop() {
        TiltBoards x = new TiltBoards();
        due("perform()", Checks.perform(x, "t0=0;j0;e0;p000*1;t0=0;e0;j1"), 7);
        due("the pour was carried out", x.grains(0, 0, 0), 1);
        due("one act", x.count(10), 1);
        due("perform() of a single one", Checks.perform(x, "t3=0"), 1);
        due("perform() of a single one", Checks.perform(x, "j3"), 1);
        due("perform() of a single one", Checks.perform(x, "e3"), 1);
        due("no stop", x.stopped(0), NONE);
        due("nor an error", x.stopped(1), NONE);
        due("each is an act, as its answer is neither an error nor NONE", x.count(10), 4);
    }

    // "all of them, or none"
    private static void allOrNone() {
        TiltBoards x = new TiltBoards();
        Twins.busy(x);
        int sand = x.count(1);
        due("99 and 9 on the cell 1", Checks.perform(x, "p400*99;t4=90;.2;p410*99;p410*9;.1"), NOT_POSSIBLE);
        due("stopped(0)", x.stopped(0), 4);
        due("sand", x.count(1), sand);
        due("angle", x.board(4, 0), 1);
        due("a tick between them makes room", Checks.perform(x, "p400*99;t4=90;.2;p410*99;.1;p410*9"), 6);
        due("grains(4, 1, 0)", x.grains(4, 1, 0), 9);
        due("angle", x.board(4, 0), 90);
    }

    /** The orders do what the acts do: only the history differs. */
    private static void ordersAsTheirActs() {
        TWINS.sameState("orders and acts", x -> {
            Twins.busy(x);
            Checks.perform(x, "t0=90;p000*5;p473*99;j0;j4;.1;t4=0;.3;e0;e3");
        }, x -> {
            Twins.busy(x);
            x.tilt(0, 90);
            x.pour(0, 0, 0, 5);
            x.pour(4, 7, 3, 99);
            x.jolt(0);
            x.jolt(4);
            x.pass(1);
            x.tilt(4, 0);
            x.pass(3);
            x.emptyPan(0);
            x.emptyPan(3);
            x.clearText();
            Checks.typeAll(x, "t0=90;p000*5;p473*99;j0;j4;.1;t4=0;.3;e0;e3");
        });
    }

    // "This is one act."
    private static void performIsOneAct() {
        String text = "t0=90;p000*5;p473*99;j0;.9;e0;e3";
        Consumer<TiltBoards> made = x -> {
            Twins.fewActs(x);
            x.clearText();
            Checks.typeAll(x, text);
        };
        TiltBoards x = new TiltBoards();
        made.accept(x);
        due("perform()", x.perform(), 7);
        due("one state more", x.count(10), 3);
        due("the text stays", x.count(11), text.length());
        TWINS.different("perform()", made, made.andThen(TiltBoards::perform));
        TWINS.sameStateAndHistory("perform(), undone", made.andThen(TiltBoards::perform).andThen(TiltBoards::undo), made);
    }

    // "0 for the number of the order in its text, from 0, 1 for the error"
    private static void stoppedAtItsEdges() {
        int[] wrong = {Integer.MIN_VALUE, -1, 2, Integer.MAX_VALUE};
        for (int what : wrong) {
            TWINS.unchanged("stopped(" + what + ") without a stop", x -> { }, x -> x.stopped(what), TiltBoards.BAD_VALUE);
            TWINS.unchanged("stopped(" + what + ")", Twins::busy, x -> x.stopped(what), TiltBoards.BAD_VALUE);
        }
        TWINS.unchanged("stopped(0) without a stop", x -> { }, x -> x.stopped(0), NONE);
        TWINS.unchanged("stopped(1) without a stop", x -> { }, x -> x.stopped(1), NONE);
        TWINS.unchanged("stopped(0)", Twins::busy, x -> x.stopped(0), 1);
        TWINS.unchanged("stopped(1)", Twins::busy, x -> x.stopped(1), FULL);
        for (int order = 0; order < 18; order++) {
            TiltBoards x = new TiltBoards();
            x.pour(2, 0, 0, 99);
            String ahead = TWENTY.substring(0, order * 3);
            due("perform()", Checks.perform(x, ahead + "p200*1"), NOT_POSSIBLE);
            due("stopped(0)", x.stopped(0), order);
            due("stopped(1)", x.stopped(1), FULL);
        }
        TiltBoards x = new TiltBoards();
        Checks.perform(x, ".99;.99;.99;.99;.99;.99;.99;.99;.99;.99;.99;.99;.99;.99;.99");
        due("a text that is carried out is no stop", x.stopped(0), NONE);
    }

    private static void stoppedTellsTheLatest() {
        TiltBoards x = new TiltBoards();
        x.pour(0, 0, 0, 99);
        Checks.perform(x, "j0;j0;p000*1");
        due("the first stop", x.stopped(0), 2);
        Checks.perform(x, "j0;p000*1;p000*1");
        due("the next stop", x.stopped(0), 1);
        Checks.perform(x, "j0");
        due("after a text that is carried out", x.stopped(0), 1);
        Checks.perform(x, "j9");
        due("after a fault", x.stopped(0), 1);
        due("a refused act of its own is no stop", x.pour(0, 0, 0, 1), FULL);
        due("stopped(0)", x.stopped(0), 1);
        x.undo();
        x.undo();
        due("after undo()", x.stopped(0), 1);
        x.keep();
        x.restore();
        x.clearText();
        due("after restore() and clearText()", x.stopped(0), 1);
        due("its error", x.stopped(1), FULL);
    }
}
