import java.io.IOException;
import java.util.function.Consumer;

/** The edges of promises 1 (a new object), 5 (room), 6 (doing), 7 (suspect), 8 (now), 27 (count). */
public final class HouseEdgesTest {
    private static final String FULL_HOUSE = "r1 1 11;r2 2 12;r3 3 13;r4 0 14;r0 1 15;d1 6;d2 7;d3 8;d4 9;d5 10;"
        + "s1;s2;s4;s8;s16;s31;c5;w2;n99;";
    private static Edges e;

    public static void main(String[] args) throws IOException {
        e = new Edges("HouseEdgesTest", args);
        newObject();
        newObjectRefuses();
        rooms();
        roomsRefused();
        doings();
        suspects();
        nows();
        whereHeIs();
        counts();
        fiveHundredAndTwelve();
        e.end();
    }

    private static void newObject() {
        e.sentence("`DoorCases()`: As told; no ROOMS, nobody.");
        DoorCases x = new DoorCases();
        int[] counts = {0, 0, 0, 0, 1, 120, 0, 0};
        int[] nows = {Edges.NONE, Edges.NONE, 0, 0, 0, 0, 0, 0};
        for (int what = 0; what < 8; what++) {
            e.due("count(" + what + ")", x.count(what), counts[what]);
            e.due("now(" + what + ")", x.now(what), nows[what]);
        }
        e.due("loved()", x.loved(), 0);
        e.due("round(-1)", x.round(-1), 0);
        e.due("round(-2)", x.round(-2), 0);
        e.due("round(0)", x.round(0), -5);
        e.due("country()", x.country(), Edges.NONE);
        e.due("next()", x.next(), Edges.NONE);
        e.due("questions()", x.questions(), 0);
        e.due("tempers()", x.tempers(), 15);
        e.due("forget()", x.forget(), 0);
        e.due("clear()", x.clear(), 0);
        e.due("trace()", x.trace(), 0);
        e.due("keep(0)", x.keep(0), 0);
        e.due("back(0)", x.back(0), 0);
        e.due("house()", x.house(), 0);
    }

    private static void newObjectRefuses() {
        e.sentence("`DoorCases()`: As told; no ROOMS, nobody.");
        DoorCases x = new DoorCases();
        e.due("room(0, 0)", x.room(0, 0), Edges.NO);
        e.due("doing(0, 0)", x.doing(0, 0), Edges.BAD);
        e.due("suspect(0)", x.suspect(0), Edges.BAD);
        e.due("goes(0)", x.goes(0), Edges.BAD);
        e.due("does(0)", x.does(0), Edges.BAD);
        e.due("asks(0)", x.asks(0), Edges.STATE);
        e.due("undo()", x.undo(), Edges.STATE);
        e.due("soonest(0, 0)", x.soonest(0, 0), Edges.BAD);
        e.due("felt(0, 0)", x.felt(0, 0), Edges.BAD);
        e.due("which(0, 0)", x.which(0, 0), Edges.BAD);
        e.due("odds(0, 0, 0, 0, 0)", x.odds(0, 0, 0, 0, 0), Edges.BAD);
        e.due("rate(0, 0)", x.rate(0, 0), Edges.NO);
        e.due("back(0)", x.back(0), Edges.STATE);
        e.due("back(1)", x.back(1), Edges.STATE);
        e.due("trace()", x.trace(), 0);
    }

    private static void rooms() {
        e.sentence("Of a ROOM: 0 FEELING, 1 TEMPER, 2 WORTH, 3 whether SOLVED (1, 0), 4 the DOING done last there (NONE).");
        DoorCases x = Due.told(FULL_HOUSE);
        int[][] due = {{1, 1, 11}, {2, 2, 12}, {3, 3, 13}, {4, 0, 14}, {0, 1, 15}};
        for (int r = 0; r < 5; r++) {
            for (int what = 0; what < 3; what++) {
                e.due("room(" + r + ", " + what + ")", x.room(r, what), due[r][what]);
            }
            e.due("room(" + r + ", 3)", x.room(r, 3), 0);
            e.due("room(" + r + ", 4)", x.room(r, 4), Edges.NONE);
        }
        x.goes(4);
        x.asks(0);
        e.due("room(4, 4), nothing done yet", x.room(4, 4), Edges.NONE);
        x.does(4);
        e.due("room(4, 0), below 0", x.room(4, 0), -5);
        e.due("room(4, 3), solved", x.room(4, 3), 1);
        e.due("room(4, 4), the last doing", x.room(4, 4), 4);
        e.due("room(3, 3), the room ahead", x.room(3, 3), 0);
        x.goes(3);
        x.does(0);
        e.due("room(3, 4), the first doing", x.room(3, 4), 0);
        e.due("room(3, 0), temper 0", x.room(3, 0), 4);
        e.due("room(3, 3), not solved", x.room(3, 3), 0);
        DoorCases zero = Edges.moment("r5 1 1;d5 1;", y -> y.goes(0));
        zero.does(0);
        e.due("room(0, 0), just 0", zero.room(0, 0), 0);
        e.due("room(0, 3), just 0", zero.room(0, 3), 0);
        DoorCases lowest = Edges.moment("r0 3 1;d9 1;", y -> y.goes(0));
        lowest.does(0);
        e.due("room(0, 0), the lowest there is", lowest.room(0, 0), -27);
        DoorCases minusOne = Edges.moment("r0 1 1;d1 1;", y -> y.goes(0));
        minusOne.does(0);
        e.due("room(0, 0), -1 as BAD would be", minusOne.room(0, 0), -1);
    }

    private static void roomsRefused() {
        e.sentence("4 the DOING done last there (NONE). NO: BAD.");
        Consumer<DoorCases> live = x -> {
            x.goes(4);
            x.does(4);
        };
        for (int r : new int[] {-1, 5, 6, Edges.LEAST, Edges.GREATEST}) {
            e.unchanged("room(" + r + ", 0)", FULL_HOUSE, live, x -> x.room(r, 0), Edges.NO);
        }
        for (int what : new int[] {-1, 5, Edges.LEAST, Edges.GREATEST}) {
            e.unchanged("room(0, " + what + ")", FULL_HOUSE, live, x -> x.room(0, what), Edges.NO);
            e.unchanged("room(4, " + what + ")", FULL_HOUSE, live, x -> x.room(4, what), Edges.NO);
        }
        DoorCases one = Due.told("r1 1 11;");
        e.due("room(0, 0) of one", one.room(0, 0), 1);
        e.due("room(1, 0) of one", one.room(1, 0), Edges.NO);
        DoorCases fewer = Due.told(FULL_HOUSE);
        Due.tell(fewer, "r7 1 1;");
        e.due("room(0, 0) of fewer than before", fewer.room(0, 0), 7);
        e.due("room(1, 0) of fewer than before", fewer.room(1, 0), Edges.NO);
    }

    private static void doings() {
        e.sentence("Of a DOING: 0 RUDE, 1 MINUTES. BAD.");
        DoorCases x = Due.told(FULL_HOUSE);
        for (int d = 0; d < 5; d++) {
            e.due("doing(" + d + ", 0)", x.doing(d, 0), d + 1);
            e.due("doing(" + d + ", 1)", x.doing(d, 1), d + 6);
        }
        for (int d : new int[] {-1, 5, 6, Edges.LEAST, Edges.GREATEST}) {
            e.unchanged("doing(" + d + ", 0)", FULL_HOUSE, y -> y.goes(0), y -> y.doing(d, 0), Edges.BAD);
            e.due("doing(" + d + ", 1)", x.doing(d, 1), Edges.BAD);
        }
        for (int what : new int[] {-1, 2, Edges.LEAST, Edges.GREATEST}) {
            e.unchanged("doing(0, " + what + ")", FULL_HOUSE, y -> y.goes(0), y -> y.doing(0, what), Edges.BAD);
        }
        e.due("doing(1, 0) of one", Due.told("d1 1;").doing(1, 0), Edges.BAD);
        Due.tell(x, "d7 1;");
        e.due("doing(0, 0) of fewer than before", x.doing(0, 0), 7);
        e.due("doing(1, 0) of fewer than before", x.doing(1, 0), Edges.BAD);
    }

    private static void suspects() {
        e.sentence("TRAITS of a SUSPECT (bits). BAD.");
        DoorCases x = Due.told(FULL_HOUSE);
        int[] due = {1, 2, 4, 8, 16, 31};
        for (int s = 0; s < 6; s++) {
            e.due("suspect(" + s + ")", x.suspect(s), due[s]);
        }
        for (int s : new int[] {-1, 6, 7, Edges.LEAST, Edges.GREATEST}) {
            e.unchanged("suspect(" + s + ")", FULL_HOUSE, y -> y.goes(0), y -> y.suspect(s), Edges.BAD);
        }
        e.due("suspect(1) of one", Due.told("s1;").suspect(1), Edges.BAD);
        Due.tell(x, "s7;");
        e.due("suspect(0) of fewer than before", x.suspect(0), 7);
        e.due("suspect(1) of fewer than before", x.suspect(1), Edges.BAD);
    }

    private static void nows() {
        e.sentence("2 minutes, 3 SOLVED (bits), 4 EARNED, 5 asked (bits), 6 LEFT (bits), 7 how many may be UNDONE. BAD.");
        for (int what : new int[] {-1, 8, Edges.LEAST, Edges.GREATEST}) {
            e.unchanged("now(" + what + ")", FULL_HOUSE, x -> x.goes(0), x -> x.now(what), Edges.BAD);
        }
        DoorCases x = Due.told(FULL_HOUSE);
        e.due("all six are left", x.now(6), 63);
        int[] minutes = {10, 22, 34, 46};
        for (int i = 0; i < 4; i++) {
            int r = new int[] {0, 1, 2, 4}[i];
            x.goes(r);
            x.does(4);
            e.due("solved with room " + r, x.now(3), new int[] {1, 3, 7, 23}[i]);
            e.due("earned with room " + r, x.now(4), new int[] {11, 23, 36, 51}[i]);
            e.due("minutes with room " + r, x.now(2), minutes[i] + (r == 4 ? 2 : 0));
        }
        x.goes(3);
        for (int trait = 0; trait < 5; trait++) {
            x.asks(trait);
            e.due("asked with " + trait, x.now(5), (2 << trait) - 1);
        }
        e.due("the culprit is left", x.now(6), 32);
        e.due("ten may be undone", x.now(7), 10);
        e.sentence("EARNED: WORTH of all that is SOLVED, together.");
        DoorCases most = Due.told("r0 1 99;r0 1 99;r0 1 99;r0 1 99;r0 1 99;d1 1;");
        for (int r = 0; r < 5; r++) {
            e.due("earned ahead of room " + r, most.now(4), 99 * r);
            most.goes(r);
            e.due("earned in room " + r, most.now(4), 99 * r);
            most.does(0);
        }
        e.due("earned of all", most.now(4), 495);
        e.due("all solved", most.now(3), 31);
    }

    private static void whereHeIs() {
        e.sentence("0 the ROOM where he is (NONE), 1 the ROOM where he is, or was last (NONE)");
        DoorCases x = Due.told("r9 1 1;r0 1 1;d1 1;");
        e.due("at first: now(0)", x.now(0), Edges.NONE);
        e.due("at first: now(1)", x.now(1), Edges.NONE);
        x.goes(1);
        e.due("in a room: now(0)", x.now(0), 1);
        e.due("in a room: now(1)", x.now(1), 1);
        x.does(0);
        e.due("sent out: now(0)", x.now(0), Edges.NONE);
        e.due("sent out: now(1)", x.now(1), 1);
        x.goes(0);
        e.due("in room 0: now(0)", x.now(0), 0);
        e.due("in room 0: now(1)", x.now(1), 0);
    }

    private static void counts() {
        e.sentence("0 ROOMS, 1 DOINGS, 2 SUSPECTS, 3 CULPRIT, 4 WALK, 5 NIGHT, 6 FELT, 7 letters of THE TEXT. BAD.");
        DoorCases x = Due.told(FULL_HOUSE);
        for (int i = 0; i < 5; i++) {
            x.felt(i, i);
        }
        Due.type(x, " ".repeat(200));
        int[] due = {5, 5, 6, 5, 2, 99, 5, 200};
        for (int what = 0; what < 8; what++) {
            e.due("count(" + what + ")", x.count(what), due[what]);
        }
        for (int what : new int[] {-1, 8, Edges.LEAST, Edges.GREATEST}) {
            e.unchanged("count(" + what + ")", FULL_HOUSE, y -> y.goes(0), y -> y.count(what), Edges.BAD);
        }
    }

    private static void fiveHundredAndTwelve() {
        e.sentence("An object is used for at most 512 calls after it has been made; what later calls answer is free.");
        DoorCases x = new DoorCases();
        Due.type(x, "r9 1 1;d0 1;");
        x.house();
        x.goes(0);
        for (int i = 0; i < 486; i++) {
            x.does(0);
        }
        for (int i = 9; i >= 0; i--) {
            e.due("undo(), the " + (510 - i) + "-th call", x.undo(), i);
        }
        e.due("now(7), the 511th call", x.now(7), 0);
        e.due("now(2), the 512th call", x.now(2), 476);
    }
}
