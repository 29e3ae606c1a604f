/** Promises 19 (felt), 20 (forget), 21 (tempers), 22 (which), 23 (odds). */
public final class FeltTest {
    private static final Due T = new Due("FeltTest");

    public static void main(String[] args) {
        feeling();
        temper();
        whichRoom();
        chances();
        chancesRefused();
        T.end();
    }

    private static void feeling() {
        DoorCases x = Due.told("d3 1;d0 1;");
        T.due("forget() of nothing", x.forget(), 0);
        T.due("felt(2, 0)", x.felt(2, 0), DoorCases.BAD);
        T.due("felt(-1, 0)", x.felt(-1, 0), DoorCases.BAD);
        T.due("felt(0, -1)", x.felt(0, -1), DoorCases.BAD);
        T.due("felt(0, 31)", x.felt(0, 31), DoorCases.BAD);
        for (int i = 1; i <= 5; i++) {
            T.due("felt, the " + i + "-th", x.felt(i % 2, i == 1 ? 30 : 0), i);
        }
        T.due("felt, the 6-th", x.felt(0, 0), DoorCases.FULL);
        T.due("felt(0, 31) when full", x.felt(0, 31), DoorCases.BAD);
        T.due("count(6)", x.count(6), 5);
        T.due("forget()", x.forget(), 5);
        T.due("forget() again", x.forget(), 0);
        T.due("felt behind forget()", x.felt(0, 3), 1);
    }

    private static void temper() {
        DoorCases x = Due.told("d3 1;d0 1;d9 1;");
        T.due("tempers() of nothing", x.tempers(), 15);
        x.felt(1, 0);
        T.due("tempers() of a harmless one", x.tempers(), 15);
        x.felt(0, 9);
        T.due("tempers() of 3 that made 9", x.tempers(), 8);
        x.felt(2, 27);
        T.due("tempers() of both", x.tempers(), 8);
        x.felt(2, 18);
        T.due("tempers() of what can't be", x.tempers(), 0);
        x.forget();
        x.felt(0, 0);
        T.due("tempers() of nothing felt", x.tempers(), 1);
        x.forget();
        x.felt(1, 1);
        T.due("tempers() of a harmless one that made 1", x.tempers(), 0);
        x.forget();
        x.felt(0, 4);
        T.due("tempers() of no such step", x.tempers(), 0);
        x.forget();
        x.felt(0, 6);
        T.due("tempers() of 3 that made 6", x.tempers(), 4);
        x.forget();
        x.felt(0, 3);
        T.due("tempers() of 3 that made 3", x.tempers(), 2);
    }

    private static void whichRoom() {
        DoorCases x = Due.told("r0 2 1;r9 1 1;r9 2 1;r9 0 1;d3 1;d0 1;");
        T.due("which(0, 6)", x.which(0, 6), 5);
        T.due("which(0, 3)", x.which(0, 3), 2);
        T.due("which(0, 0)", x.which(0, 0), 8);
        T.due("which(0, 9)", x.which(0, 9), 0);
        T.due("which(1, 0)", x.which(1, 0), 15);
        T.due("which(0, 30)", x.which(0, 30), 0);
        x.goes(0);
        x.does(0);
        x.goes(2);
        x.does(0);
        T.due("which(0, 6), solved or done last", x.which(0, 6), 5);
        T.due("which(2, 0)", x.which(2, 0), DoorCases.BAD);
        T.due("which(-1, 0)", x.which(-1, 0), DoorCases.BAD);
        T.due("which(0, -1)", x.which(0, -1), DoorCases.BAD);
        T.due("which(0, 31)", x.which(0, 31), DoorCases.BAD);
    }

    private static void odds(DoorCases x, int r, int d, int byX, int n, int upper, int lower) {
        String call = "odds(" + r + ", " + d + ", " + byX + ", " + n + ", ";
        T.due(call + "0)", x.odds(r, d, byX, n, 0), upper);
        T.due(call + "1)", x.odds(r, d, byX, n, 1), lower);
    }

    private static void chances() {
        DoorCases x = Due.told("r12 2 1;r0 1 1;r4 0 1;d4 1;d1 1;d0 1;");
        odds(x, 0, 0, 2, 3, 112, 125);
        odds(x, 0, 0, 0, 1, 0, 1);
        odds(x, 0, 0, 0, 2, 1, 1);
        odds(x, 0, 0, 10, 6, 0, 1);
        odds(x, 0, 0, 5, 2, 1, 4);
        odds(x, 1, 1, 5, 0, 0, 1);
        odds(x, 1, 1, 0, 0, 0, 1);
        odds(x, 1, 1, 10, 0, 0, 1);
        odds(x, 1, 1, 3, 1, 7, 10);
        odds(x, 1, 1, 1, 6, 999999, 1000000);
        odds(x, 1, 1, 9, 6, 468559, 1000000);
        odds(x, 1, 2, 0, 6, 0, 1);
        odds(x, 2, 0, 0, 6, 0, 1);
        odds(x, 0, 1, 0, 6, 0, 1);
        x.goes(0);
        x.does(0);
        x.does(0);
        odds(x, 0, 1, 0, 1, 1, 1);
        DoorCases half = Due.told("r5 1 1;d3 1;");
        odds(half, 0, 0, 0, 2, 1, 1);
        DoorCases just = Due.told("r6 1 1;d3 1;");
        odds(just, 0, 0, 0, 2, 0, 1);
        odds(just, 0, 0, 0, 3, 1, 1);
    }

    private static void chancesRefused() {
        DoorCases x = Due.told("r0 1 1;r5 1 1;d1 1;");
        int[][] bad = {
            {2, 0, 0, 0, 0}, {-1, 0, 0, 0, 0}, {0, 1, 0, 0, 0}, {0, -1, 0, 0, 0}, {0, 0, -1, 0, 0}, {0, 0, 11, 0, 0},
            {0, 0, 0, -1, 0}, {0, 0, 0, 7, 0}, {0, 0, 0, 0, -1}, {0, 0, 0, 0, 2}};
        for (int[] b : bad) {
            T.due("odds, a bad number", x.odds(b[0], b[1], b[2], b[3], b[4]), DoorCases.BAD);
        }
        x.goes(0);
        x.does(0);
        T.due("odds of what is solved", x.odds(0, 0, 0, 0, 0), DoorCases.STATE);
        for (int[] b : bad) {
            T.due("odds, a bad number, solved", x.odds(b[0], b[1], b[2], b[3], b[4]), DoorCases.BAD);
        }
        T.due("odds of another", x.odds(1, 0, 0, 6, 0), 1);
    }
}
