/** Promises 13 (soonest), 14 (loved), 15 (round), 16 (country). */
public final class SentOutTest {
    private static final Due T = new Due("SentOutTest");

    public static void main(String[] args) {
        soonestOrder();
        soonestByHarmless();
        soonestNow();
        soonestRefused();
        lovedRooms();
        rounds();
        roundTies();
        countries();
        fullHouse();
        nothingChanges();
        T.end();
    }

    private static void row(DoorCases x, int r, int minutes, int... doings) {
        T.due("soonest(" + r + ", -1)", x.soonest(r, -1), minutes);
        T.due("soonest(" + r + ", -2)", x.soonest(r, -2), doings.length);
        for (int k = 0; k < doings.length; k++) {
            T.due("soonest(" + r + ", " + k + ")", x.soonest(r, k), doings[k]);
        }
        T.due("soonest, one beyond", x.soonest(r, doings.length), -5);
        T.due("soonest, far beyond", x.soonest(r, Integer.MAX_VALUE), -5);
    }

    private static void never(DoorCases x, int r) {
        for (int k = -2; k < 3; k++) {
            T.due("soonest(" + r + ", " + k + "), never", x.soonest(r, k), DoorCases.NONE);
        }
    }

    private static void soonestOrder() {
        row(Due.told("r3 1 1;d4 10;d2 4;d2 4;"), 0, 8, 1, 2);
        row(Due.told("r3 1 1;d2 4;d4 8;"), 0, 8, 1);
        row(Due.told("r3 1 1;d4 8;d4 8;"), 0, 8, 0);
        row(Due.told("r5 1 1;d3 2;d3 2;"), 0, 4, 0, 1);
        row(Due.told("r3 1 1;d4 5;d3 2;"), 0, 4, 1, 1);
        row(Due.told("r0 1 1;d1 30;"), 0, 30, 0);
        row(Due.told("r0 3 1;d0 1;d9 3;d1 3;"), 0, 3, 1);
    }

    private static void soonestByHarmless() {
        row(Due.told("r16 1 1;d9 10;d0 1;"), 0, 21, 0, 1, 0);
        row(Due.told("r2 1 1;d1 3;d0 2;"), 0, 13, 0, 1, 0, 1, 0);
        row(Due.told("r2 1 1;d0 2;d0 2;d1 3;"), 0, 13, 2, 0, 2, 0, 2);
    }

    private static void soonestNow() {
        DoorCases x = Due.told("r9 1 1;r9 1 1;d6 5;d5 5;");
        row(x, 0, 10, 0, 1);
        x.goes(0);
        x.does(0);
        row(x, 0, 5, 1);
        row(x, 1, 10, 0, 1);
        x.goes(1);
        row(x, 0, 5, 1);
        DoorCases last = Due.told("r1 1 1;d1 5;");
        never(last, 0);
        DoorCases zero = Due.told("r0 1 1;d1 5;");
        row(zero, 0, 5, 0);
    }

    private static void soonestRefused() {
        DoorCases x = Due.told("r0 1 1;r5 0 1;d1 5;");
        T.due("soonest(2, 0)", x.soonest(2, 0), DoorCases.BAD);
        T.due("soonest(-1, 0)", x.soonest(-1, 0), DoorCases.BAD);
        T.due("soonest(0, -3)", x.soonest(0, -3), DoorCases.BAD);
        T.due("soonest(0, least)", x.soonest(0, Integer.MIN_VALUE), DoorCases.BAD);
        never(x, 1);
        x.goes(0);
        x.does(0);
        T.due("soonest(0, 0), solved", x.soonest(0, 0), DoorCases.STATE);
        T.due("soonest(0, -3), solved", x.soonest(0, -3), DoorCases.BAD);
        never(Due.told("r0 1 1;"), 0);
        never(Due.told("r0 1 1;d0 1;"), 0);
        never(Due.told("r9 1 1;d1 1;"), 0);
    }

    private static void lovedRooms() {
        DoorCases x = Due.told("r0 1 1;r5 0 1;r1 1 1;r9 3 1;d1 5;");
        T.due("loved()", x.loved(), 2 | 4);
        x.goes(3);
        x.does(0);
        T.due("loved() goes on", x.loved(), 2 | 4);
        x.goes(2);
        x.does(0);
        T.due("loved(), half of 1 is nothing", x.loved(), 2 | 4);
        x.goes(0);
        x.does(0);
        T.due("loved(), solved ones are none", x.loved(), 2 | 4);
        T.due("loved() without doings", Due.told("r0 1 1;r0 1 1;").loved(), 3);
        T.due("loved() without rooms", Due.told("d1 1;").loved(), 0);
    }

    private static void evening(DoorCases x, int worth, int minutes, int... rooms) {
        T.due("round(-1)", x.round(-1), worth);
        T.due("round(-2)", x.round(-2), minutes);
        for (int k = 0; k < rooms.length; k++) {
            T.due("round(" + k + ")", x.round(k), rooms[k]);
        }
        T.due("round, one beyond", x.round(rooms.length), -5);
        T.due("round, far beyond", x.round(Integer.MAX_VALUE), -5);
    }

    private static void rounds() {
        DoorCases x = Due.told("r0 1 5;r0 1 6;r0 1 7;d1 10;w5;n25;");
        evening(x, 11, 25, 0, 1);
        evening(Due.told("r0 1 5;r0 1 6;r0 1 7;d1 10;w5;n24;"), 7, 20, 2);
        evening(Due.told("r0 1 5;r0 1 6;r0 1 7;d1 10;w5;n40;"), 18, 40, 0, 1, 2);
        evening(Due.told("r0 1 5;r0 1 6;r0 1 7;d1 10;w5;n39;"), 13, 30, 1, 2);
        evening(Due.told("r0 1 5;d1 10;n9;"), 0, 0);
        evening(Due.told("r0 1 5;d1 10;n10;"), 5, 10, 0);
        evening(Due.told("r0 0 5;r0 1 0;d1 10;"), 0, 0);
        T.due("round(-3)", x.round(-3), DoorCases.BAD);
        x.goes(2);
        evening(x, 7, 10, 2);
        x.does(0);
        evening(x, 0, 0);
        DoorCases late = Due.told("r0 1 5;r0 1 6;d1 10;w1;n40;");
        late.goes(1);
        evening(late, 11, 21, 1, 0);
        late.asks(0);
        late.does(0);
        evening(late, 5, 11, 0);
        DoorCases past = Due.told("r0 1 5;r0 1 6;d1 10;w9;n8;");
        past.goes(1);
        evening(past, 0, 0);
    }

    private static void roundTies() {
        evening(Due.told("r0 1 5;r0 1 5;r0 1 5;d1 10;w0;n20;"), 10, 20, 0, 1);
        evening(Due.told("r0 1 5;r0 1 5;r0 1 5;d1 10;w1;n21;"), 10, 21, 0, 1);
        evening(Due.told("r0 1 5;r0 1 5;r9 1 5;d1 10;d9 3;w0;n6;"), 10, 6, 0, 1);
        DoorCases middle = Due.told("r0 1 5;r9 0 5;r0 1 5;d1 10;w1;n500;");
        middle.goes(1);
        evening(middle, 10, 23, 0, 2);
    }

    private static void countries() {
        T.due("country() of none", new DoorCases().country(), DoorCases.NONE);
        T.due("country() of one", Due.told("r0 1 1;d1 7;w9;").country(), 7);
        T.due("country() of two takes both", Due.told("r0 1 1;r0 1 1;d1 7;").country(), 14);
        T.due("country(), one of two is loved", Due.told("r0 1 1;r0 0 1;d1 7;").country(), DoorCases.NONE);
        T.due("country(), one of three is loved", Due.told("r0 1 1;r0 0 1;r0 1 1;d1 7;").country(), 14);
        DoorCases x = Due.told("r9 1 1;r3 1 1;r0 1 1;r0 0 1;r5 1 1;d2 5;d1 3;w9;n1;");
        int all = x.soonest(1, -1) + x.soonest(2, -1) + x.soonest(4, -1);
        T.due("country() takes the three soonest", x.country(), all);
        x.goes(0);
        for (int i = 0; i < 40 && x.now(0) == 0; i++) {
            x.does(i % 2);
        }
        T.due("those solved count", x.country(), x.soonest(1, -1) + x.soonest(2, -1));
        x.goes(2);
        x.does(0);
        T.due("two are solved", x.country(), x.soonest(1, -1));
        x.goes(1);
        for (int i = 0; i < 40 && x.now(0) == 1; i++) {
            x.does(i % 2);
        }
        T.due("three are solved", x.country(), 0);
    }

    /** As many rooms, doings and suspects as there can be, all numbers as great as they can be. */
    private static void fullHouse() {
        DoorCases x = Due.told("r30 3 99;r30 3 99;r30 3 99;r30 3 99;r30 1 99;d9 30;d9 30;d9 30;d9 30;d9 30;"
            + "s31;s31;s31;s31;s31;s0;c5;w9;n500;");
        row(x, 3, 60, 0, 0);
        row(x, 4, 120, 0, 0, 1, 0);
        T.due("loved()", x.loved(), 0);
        evening(x, 495, 396, 0, 1, 2, 3, 4);
        T.due("country()", x.country(), 180);
        T.due("next()", x.next(), 0);
        T.due("questions()", x.questions(), 1);
        T.due("which(4, 27)", x.which(4, 27), 15);
        T.due("odds(4, 4, 0, 6, 0)", x.odds(4, 4, 0, 6, 0), 1);
        T.due("goes(4)", x.goes(4), 36);
        T.due("asks(4)", x.asks(4), 0);
        T.due("left", x.now(6), 32);
        for (int i = 0; i < 4; i++) {
            T.due("does(" + (4 - i % 2) + ")", x.does(4 - i % 2), i / 3);
        }
        T.due("earned", x.now(4), 99);
        T.due("rate(5, 3)", x.rate(5, 3), 129);
        evening(x, 396, 276, 3, 2, 1, 0);
        // A row of the most doings there can be: one takes 1, the other nothing.
        DoorCases slow = Due.told("r30 1 1;d1 1;d0 30;");
        T.due("the longest row, minutes", slow.soonest(0, -1), 31 + 30 * 30);
        T.due("the longest row, doings", slow.soonest(0, -2), 61);
        T.due("the longest row, its last one", slow.soonest(0, 60), 0);
        T.due("the longest row, one beyond", slow.soonest(0, 61), -5);
    }

    private static void nothingChanges() {
        DoorCases x = Due.told("r9 1 1;r3 1 1;r0 1 1;r0 0 1;d2 5;d1 3;s1;s2;");
        x.goes(1);
        x.does(0);
        String before = Due.look(x);
        x.soonest(0, 2);
        x.loved();
        x.round(0);
        x.country();
        x.next();
        x.questions();
        x.which(0, 2);
        x.odds(0, 0, 5, 5, 0);
        T.due("nothing is changed", before.equals(Due.look(x)));
    }
}
