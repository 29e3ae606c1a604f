/** Promises 5 (room), 6 (doing), 7 (suspect), 8 (now). */
public final class HouseTest {
    private static final Due T = new Due("HouseTest");
    private static final int[] WRONG = {-1, Integer.MIN_VALUE, Integer.MAX_VALUE};

    public static void main(String[] args) {
        rooms();
        doings();
        suspects();
        nows();
        T.end();
    }

    private static void rooms() {
        DoorCases x = Due.told("r30 3 99;r0 0 0;d9 4;");
        int[] first = {30, 3, 99, 0, DoorCases.NONE};
        int[] second = {0, 0, 0, 0, DoorCases.NONE};
        for (int what = 0; what < 5; what++) {
            T.due("room(0, " + what + ")", x.room(0, what), first[what]);
            T.due("room(1, " + what + ")", x.room(1, what), second[what]);
        }
        x.goes(0);
        x.does(0);
        x.does(0);
        T.due("sent out?", x.room(0, 3), 1);
        T.due("feeling below 0", x.room(0, 0), 30 - 27 - 13);
        T.due("done last", x.room(0, 4), 0);
        T.due("temper stays", x.room(0, 1), 3);
        T.due("room(2, 0)", x.room(2, 0), DoorCases.NO);
        T.due("room(0, 5)", x.room(0, 5), DoorCases.NO);
        for (int wrong : WRONG) {
            T.due("room(" + wrong + ", 0)", x.room(wrong, 0), DoorCases.NO);
            T.due("room(0, " + wrong + ")", x.room(0, wrong), DoorCases.NO);
        }
    }

    private static void doings() {
        DoorCases x = Due.told("d9 30;d0 1;");
        T.due("doing(0, 0)", x.doing(0, 0), 9);
        T.due("doing(0, 1)", x.doing(0, 1), 30);
        T.due("doing(1, 0)", x.doing(1, 0), 0);
        T.due("doing(1, 1)", x.doing(1, 1), 1);
        T.due("doing(2, 0)", x.doing(2, 0), DoorCases.BAD);
        T.due("doing(0, 2)", x.doing(0, 2), DoorCases.BAD);
        for (int wrong : WRONG) {
            T.due("doing(" + wrong + ", 0)", x.doing(wrong, 0), DoorCases.BAD);
            T.due("doing(0, " + wrong + ")", x.doing(0, wrong), DoorCases.BAD);
        }
    }

    private static void suspects() {
        DoorCases x = Due.told("s31;s0;s5;");
        T.due("suspect(0)", x.suspect(0), 31);
        T.due("suspect(1)", x.suspect(1), 0);
        T.due("suspect(2)", x.suspect(2), 5);
        T.due("suspect(3)", x.suspect(3), DoorCases.BAD);
        for (int wrong : WRONG) {
            T.due("suspect(" + wrong + ")", x.suspect(wrong), DoorCases.BAD);
        }
    }

    private static void now(DoorCases x, String when, int... want) {
        for (int what = 0; what < want.length; what++) {
            T.due(when + ": now(" + what + ")", x.now(what), want[what]);
        }
    }

    private static void nows() {
        DoorCases x = Due.told("r2 1 5;r1 1 9;r0 1 11;d3 4;s3;s1;s2;s7;c1;w5;");
        now(x, "told", DoorCases.NONE, DoorCases.NONE, 0, 0, 0, 0, 15, 0);
        x.goes(2);
        now(x, "gone", 2, 2, 10, 0, 0, 0, 15, 1);
        x.asks(1);
        now(x, "asked", 2, 2, 12, 0, 0, 2, 2, 2);
        x.does(0);
        now(x, "sent out", DoorCases.NONE, 2, 16, 4, 11, 2, 2, 3);
        x.goes(0);
        now(x, "gone again", 0, 0, 26, 4, 11, 2, 2, 4);
        x.asks(4);
        x.does(0);
        now(x, "sent out of two", DoorCases.NONE, 0, 32, 5, 16, 18, 2, 6);
        T.due("now(8)", x.now(8), DoorCases.BAD);
        for (int wrong : WRONG) {
            T.due("now(" + wrong + ")", x.now(wrong), DoorCases.BAD);
        }
        DoorCases nobody = Due.told("r2 1 5;");
        T.due("nobody is left of nobody", nobody.now(6), 0);
    }
}
