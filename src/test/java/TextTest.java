/** Promises 1 (a new object), 2 (type), 3 (clear), 4 (house), 27 (count). */
public final class TextTest {
    private static final Due T = new Due("TextTest");

    public static void main(String[] args) {
        newObject();
        typeAndClear();
        houseTells();
        faults();
        faultChangesNothing();
        readAnew();
        readAgainAndAgain();
        fullTexts();
        counts();
        T.end();
    }

    private static void newObject() {
        DoorCases x = new DoorCases();
        int[] counts = {0, 0, 0, 0, 1, 120, 0, 0, DoorCases.BAD};
        int[] nows = {DoorCases.NONE, DoorCases.NONE, 0, 0, 0, 0, 0, 0, DoorCases.BAD};
        for (int what = 0; what < 9; what++) {
            T.due("new: count(" + what + ")", x.count(what), counts[what]);
            T.due("new: now(" + what + ")", x.now(what), nows[what]);
        }
        T.due("new: trace()", x.trace(), 0);
        T.due("new: room(0, 0)", x.room(0, 0), DoorCases.NO);
        T.due("new: doing(0, 0)", x.doing(0, 0), DoorCases.BAD);
        T.due("new: suspect(0)", x.suspect(0), DoorCases.BAD);
        T.due("new: undo()", x.undo(), DoorCases.STATE);
        T.due("new: back(0)", x.back(0), DoorCases.STATE);
        T.due("new: tempers()", x.tempers(), 15);
        T.due("new: forget()", x.forget(), 0);
    }

    private static void typeAndClear() {
        DoorCases x = new DoorCases();
        T.due("clear() of nothing", x.clear(), 0);
        int[] bad = {-1, 256, Integer.MIN_VALUE, Integer.MAX_VALUE};
        for (int letter : bad) {
            T.due("type(" + letter + ")", x.type(letter), DoorCases.BAD);
        }
        T.due("type(0)", x.type(0), 1);
        T.due("type(255)", x.type(255), 2);
        for (int i = 3; i <= 200; i++) {
            T.due("type, the " + i + "-th", x.type(' '), i);
        }
        T.due("type, the 201-st", x.type(' '), DoorCases.FULL);
        T.due("type(256) when full", x.type(256), DoorCases.BAD);
        T.due("count(7) when full", x.count(7), 200);
        T.due("clear() when full", x.clear(), 200);
        T.due("clear() again", x.clear(), 0);
        T.due("type behind clear()", x.type('r'), 1);
    }

    private static void houseTells() {
        items("", 0);
        items("    ", 0);
        items("r0 0 0;", 1);
        items("r30 3 99;d9 30;s31;c0;w9;n500;", 6);
        items("  r  0   0  0  ;  d 0 1 ; s 0 ;c 0 ;w 0 ;n 1 ; ", 6);
        items("s1;s2;s3;s4;s5;s6;c5;", 7);
        items("s1;c0;s2;", 3);
        items("n1;w0;d1 1;r1 1 1;", 4);
        items("r0 0 0;r0 0 0;r0 0 0;r0 0 0;r0 0 0;d0 1;d0 1;d0 1;d0 1;d0 1;", 10);
        DoorCases x = Due.told("w3;s7;s9;c1;n77;d4 6;r5 2 8;");
        T.due("culprit", x.count(3), 1);
        T.due("walk", x.count(4), 3);
        T.due("night", x.count(5), 77);
        T.due("the text is empty then", x.count(7), 0);
        T.due("room 0 feeling", x.room(0, 0), 5);
        T.due("house() again tells all anew", x.house(), 0);
        T.due("walk at first again", x.count(4), 1);
        T.due("night at first again", x.count(5), 120);
        T.due("culprit at first again", x.count(3), 0);
        T.due("no rooms again", x.count(0), 0);
    }

    private static void items(String text, int want) {
        T.due("house() of '" + text + "'", Due.tell(new DoorCases(), text), want);
    }

    private static void fault(String text, int place) {
        T.due("house() of '" + text + "'", Due.tell(new DoorCases(), text), -10 - place);
    }

    private static void faults() {
        String five = "r0 0 0;r0 0 0;r0 0 0;r0 0 0;r0 0 0;";
        fault(five + " r0 0 0;", 36);
        fault("d0 1;d0 1;d0 1;d0 1;d0 1;d0 1;", 25);
        fault("s0;s0;s0;s0;s0;s0;s0;", 18);
        fault("s0;c0;c0;", 6);
        fault("w1;w1;", 3);
        fault("n1;  n1;", 5);
        fault("c0;", 1);
        fault("c;", 1);
        fault("s0;s0;c2;", 7);
        fault("c0;s0;", 1);
        fault("r31 0 0;", 1);
        fault("r 0 4 0;", 4);
        fault("r0 0 100;", 5);
        fault("d10 1;", 1);
        fault("d0 0;", 3);
        fault("d0 31;", 3);
        fault("s32;", 1);
        fault("w10;", 1);
        fault("n0;", 1);
        fault("n501;", 1);
        fault("n99999999999999999999999999;", 1);
        fault("n4294967297;", 1);
        fault("w 00;", 2);
        fault("n 0120;", 2);
        fault("r01 0 0;", 1);
        fault("r1 1;", 4);
        fault("r1 1 1 1;", 7);
        fault("r1 1 1r1 1 1;", 6);
        fault("r1 1 1;;", 7);
        fault(";", 0);
        fault("5;", 0);
        fault("  x", 2);
        fault("R1 1 1;", 0);
        fault("r1 1 1,", 6);
        fault("r-1 1 1;", 1);
        fault("r1\t1 1;", 2);
        fault("rd", 1);
        fault("r", 1);
        fault("r  ", 3);
        fault("r1", 2);
        fault("r1 1", 4);
        fault("r1 1 1", 6);
        fault("r1 1 1 ", 7);
        fault("n50", 3);
        fault("r1 1 1;n", 8);
        fault("\u0000", 0);
        fault("w1; \u00ff", 4);
    }

    private static void faultChangesNothing() {
        DoorCases x = Due.told("r9 1 5;d4 6;s3;");
        x.goes(0);
        x.does(0);
        x.asks(1);
        x.felt(0, 4);
        x.keep(1);
        Due.type(x, "r1 1 1;d9 9;s9;w5;n7;q");
        String before = Due.look(x);
        T.due("house() with a fault", x.house(), -10 - 21);
        T.due("nothing changes by a fault", before.equals(Due.look(x)));
        T.due("what can be undone stays", x.undo(), 2);
        T.due("the image stays", x.back(1), 8);
        T.due("the text stays", x.clear(), 22);
    }

    private static void readAnew() {
        DoorCases x = Due.told("r1 1 5;r9 2 7;d4 6;s3;s1;c1;w2;n50;");
        x.goes(0);
        x.asks(1);
        x.does(0);
        x.goes(1);
        x.felt(0, 4);
        x.keep(0);
        x.keep(1);
        x.rate(0, 0);
        T.due("house() anew", Due.tell(x, "r8 1 5;d3 6;s2;"), 3);
        int[] nows = {DoorCases.NONE, DoorCases.NONE, 0, 0, 0, 0, 1, 0};
        for (int what = 0; what < nows.length; what++) {
            T.due("anew: now(" + what + ")", x.now(what), nows[what]);
        }
        T.due("anew: room(0, 0)", x.room(0, 0), 8);
        T.due("anew: room(0, 4)", x.room(0, 4), DoorCases.NONE);
        T.due("anew: room(1, 0)", x.room(1, 0), DoorCases.NO);
        T.due("anew: count(6)", x.count(6), 0);
        T.due("anew: undo()", x.undo(), DoorCases.STATE);
        T.due("anew: back(0)", x.back(0), DoorCases.STATE);
        T.due("anew: back(1)", x.back(1), DoorCases.STATE);
        T.due("anew: the trace goes on", x.trace(), 1);
    }

    private static void readAgainAndAgain() {
        DoorCases x = new DoorCases();
        String text = "r1 1 1;r2 2 2;d3 4;d5 6;s7;s8;c1;w3;n77;";
        for (int i = 0; i < 3; i++) {
            T.due("the same text again", Due.tell(x, text), 9);
            T.due("two rooms again", x.count(0), 2);
            T.due("two doings again", x.count(1), 2);
            T.due("two suspects again", x.count(2), 2);
            T.due("a text with a fault at its end", Due.tell(x, text + "x"), -10 - text.length());
        }
        T.due("a lesser text", Due.tell(x, "s1;"), 1);
        T.due("culprit at first", x.count(3), 0);
        T.due("walk at first", x.count(4), 1);
        T.due("night at first", x.count(5), 120);
        T.due("no culprit beyond the lesser text", Due.tell(x, "s1;c1;"), -14);
    }

    /** Texts of 200 letters, which end just where the row of letters ends. */
    private static void fullTexts() {
        items(" ".repeat(200), 0);
        items(" ".repeat(193) + "r1 1 1;", 1);
        items("r1 1 1;" + " ".repeat(193), 1);
        fault(" ".repeat(199) + "r", 200);
        fault(" ".repeat(194) + "r1 1 1", 200);
        fault("n" + "9".repeat(199), 1);
        fault("n" + "0".repeat(199), 1);
        fault("n1" + " ".repeat(198), 200);
        fault("n" + " ".repeat(199), 200);
        fault(" ".repeat(199) + "x", 199);
        fault(" ".repeat(199) + ";", 199);
    }

    private static void counts() {
        DoorCases x = Due.told("r1 1 5;r9 2 7;d4 6;s3;s1;s7;c2;w2;n50;");
        x.felt(0, 0);
        x.type('r');
        int[] want = {2, 1, 3, 2, 2, 50, 1, 1};
        for (int what = 0; what < want.length; what++) {
            T.due("count(" + what + ")", x.count(what), want[what]);
        }
        T.due("count(-1)", x.count(-1), DoorCases.BAD);
        T.due("count(8)", x.count(8), DoorCases.BAD);
    }
}
