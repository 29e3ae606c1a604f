import java.io.IOException;

/** The document's promises from the first to the last, word by word: each call's answers and what it refuses. */
public final class PromisesTest {
    /** Sent out: of room 0 by doing 1 in 11 minutes, of room 1 by doing 0 three times in 15, of room 2 never. */
    private static final String HOUSE = "r12 2 30;r7 1 50;r5 0 90;d4 5;d7 11;s5;s9;s20;c1;w3;n60;";
    private static final int BAD = DoorCases.BAD;
    private static final int STATE = DoorCases.STATE;
    private static final int FULL = DoorCases.FULL;
    private static final int NONE = DoorCases.NONE;
    private static final int NO = DoorCases.NO;
    private static Passages p;

    public static void main(String[] args) throws IOException {
        p = new Passages("PromisesTest", args, "## Promise 1: A new object", "## Not promised");
        newObject();
        typeAndClear();
        house();
        room();
        doingAndSuspect();
        now();
        goes();
        does();
        asks();
        undo();
        soonest();
        lovedRoundCountry();
        nextAndQuestions();
        feltForgetTempersWhich();
        odds();
        rate();
        keepAndBack();
        count();
        trace();
        p.end();
    }

    /** In room 1, where doing 1 made the feeling 0; trait 0 was asked; 16 minutes have gone by. */
    private static DoorCases inRoomOne() {
        DoorCases x = Due.told(HOUSE);
        x.goes(1);
        x.does(1);
        x.asks(0);
        return x;
    }

    /** Out of room 1, by 21 minutes. */
    private static DoorCases sentOutOfRoomOne() {
        DoorCases x = inRoomOne();
        x.does(0);
        return x;
    }

    private static void newObject() {
        p.reads("`DoorCases()`: As told; no ROOMS, nobody.");
        DoorCases x = new DoorCases();
        int[] counts = new int[8];
        int[] nows = new int[8];
        for (int what = 0; what < 8; what++) {
            counts[what] = x.count(what);
            nows[what] = x.now(what);
        }
        p.due("count", counts, 0, 0, 0, 0, 1, 120, 0, 0);
        p.due("now", nows, NONE, NONE, 0, 0, 0, 0, 0, 0);
        p.due("none of anything", new int[] {x.room(0, 0), x.doing(0, 0), x.suspect(0), x.rate(0, 0)}, NO, BAD, BAD, NO);
        p.due("nothing to do", new int[] {x.goes(0), x.does(0), x.asks(0), x.undo()}, BAD, BAD, STATE, STATE);
        p.due("nothing to tell", new int[] {x.loved(), x.round(-1), x.country(), x.next(), x.questions(), x.tempers()},
            0, 0, NONE, NONE, 0, 15);
        p.due("no image, no trace", new int[] {x.back(0), x.back(1), (int) x.trace()}, STATE, STATE, 0);
        p.due("kept and back", new int[] {x.keep(0), x.back(0)}, 0, 0);
    }

    private static void typeAndClear() {
        p.reads("`int type(int letter)`: A letter (0 .. 255) comes to THE TEXT: how many it has. BAD; FULL.");
        DoorCases x = new DoorCases();
        p.due("letters", new int[] {x.type(0), x.type(255), x.type('r')}, 1, 2, 3);
        p.due("no letters", new int[] {x.type(-1), x.type(256), x.count(7)}, BAD, BAD, 3);
        for (int i = 4; i <= 200; i++) {
            p.due("type(48)", x.type(48), i);
        }
        p.due("full", new int[] {x.type(48), x.type(256), x.count(7)}, FULL, BAD, 200);
        p.reads("`int clear()`: THE TEXT is empty: how many letters it had.");
        p.due("clear", new int[] {x.clear(), x.count(7), x.clear(), x.type(48)}, 200, 0, 0, 1);
    }

    private static void house() {
        p.reads("`int house()`: THE TEXT tells all anew, and is empty then: how many ITEMS. -10 less FAULT: nothing changes.");
        DoorCases x = sentOutOfRoomOne();
        x.keep(1);
        x.felt(0, 8);
        Due.type(x, "r1 1 1;d1 1;s1;s2;c1;w5;n7;x");
        String before = Due.look(x);
        p.due("fault at 27", x.house(), -37);
        p.due("nothing changes", Due.look(x).equals(before));
        p.due("the text and image too", new int[] {x.count(7), x.house(), x.undo(), x.back(1)}, 28, -37, 3, 21);
        x.clear();
        Due.type(x, "r2 1 1;s0;");
        p.due("items, and the text is empty", new int[] {x.house(), x.count(7)}, 2, 0);
        p.due("all anew", new int[] {x.count(0), x.count(1), x.count(2), x.count(3), x.count(4), x.count(5), x.count(6)},
            1, 0, 1, 0, 1, 120, 0);
        p.due("now anew", new int[] {x.now(0), x.now(1), x.now(2), x.now(3), x.now(4), x.now(5), x.now(6), x.now(7)},
            NONE, NONE, 0, 0, 0, 0, 1, 0);
        p.due("the empty text tells that there is nothing", new int[] {x.house(), x.count(0), x.count(2)}, 0, 0, 0);
    }

    private static void room() {
        p.reads("`int room(int r, int what)`: Of a ROOM: 0 FEELING, 1 TEMPER, 2 WORTH, 3 whether SOLVED (1, 0), "
            + "4 the DOING done last there (NONE). NO: BAD.");
        DoorCases x = sentOutOfRoomOne();
        p.due("room 0", roomOf(x, 0), 12, 2, 30, 0, NONE);
        p.due("room 1", roomOf(x, 1), -4, 1, 50, 1, 0);
        p.due("room 2", roomOf(x, 2), 5, 0, 90, 0, NONE);
        p.due("no such thing", new int[] {x.room(-1, 0), x.room(3, 0), x.room(0, -1), x.room(0, 5)}, NO, NO, NO, NO);
    }

    private static int[] roomOf(DoorCases x, int r) {
        return new int[] {x.room(r, 0), x.room(r, 1), x.room(r, 2), x.room(r, 3), x.room(r, 4)};
    }

    private static void doingAndSuspect() {
        DoorCases x = Due.told(HOUSE);
        p.reads("`int doing(int d, int what)`: Of a DOING: 0 RUDE, 1 MINUTES. BAD.");
        p.due("doings", new int[] {x.doing(0, 0), x.doing(0, 1), x.doing(1, 0), x.doing(1, 1)}, 4, 5, 7, 11);
        p.due("no such thing", new int[] {x.doing(-1, 0), x.doing(2, 0), x.doing(0, -1), x.doing(0, 2)}, BAD, BAD, BAD, BAD);
        p.reads("`int suspect(int s)`: TRAITS of a SUSPECT (bits). BAD.");
        p.due("suspects", new int[] {x.suspect(0), x.suspect(1), x.suspect(2)}, 5, 9, 20);
        p.due("no such thing", new int[] {x.suspect(-1), x.suspect(3)}, BAD, BAD);
    }

    private static void now() {
        p.reads("`int now(int what)`: 0 the ROOM where he is (NONE), 1 the ROOM where he is, or was last (NONE), 2 minutes, "
            + "3 SOLVED (bits), 4 EARNED, 5 asked (bits), 6 LEFT (bits), 7 how many may be UNDONE. BAD.");
        p.due("at first", nowOf(Due.told(HOUSE)), NONE, NONE, 0, 0, 0, 0, 7, 0);
        p.due("in room 1", nowOf(inRoomOne()), 1, 1, 16, 0, 0, 1, 3, 3);
        p.due("out of it", nowOf(sentOutOfRoomOne()), NONE, 1, 21, 2, 50, 1, 3, 4);
        DoorCases x = inRoomOne();
        p.due("no such thing", new int[] {x.now(-1), x.now(8)}, BAD, BAD);
    }

    private static int[] nowOf(DoorCases x) {
        return new int[] {x.now(0), x.now(1), x.now(2), x.now(3), x.now(4), x.now(5), x.now(6), x.now(7)};
    }

    private static void goes() {
        p.reads("`int goes(int r)`: GONE: minutes it took. BAD; STATE: it is SOLVED, he is there, minutes would be above 9999.");
        DoorCases x = sentOutOfRoomOne();
        p.due("no such thing", new int[] {x.goes(-1), x.goes(3)}, BAD, BAD);
        p.due("solved", new int[] {x.goes(1), x.now(2), x.now(7)}, STATE, 21, 4);
        p.due("to 2, there, to 0", new int[] {x.goes(2), x.goes(2), x.goes(0), x.now(2), x.now(0)}, 3, STATE, 6, 30, 0);
        DoorCases late = Due.told("r1 0 0;r1 0 0;r1 0 0;d0 30;d0 5;w3;");
        late.goes(0);
        for (int i = 0; i < 333; i++) {
            late.does(0);
        }
        late.does(1);
        p.due("9995 and 6 are too many", new int[] {late.now(2), late.goes(2), late.now(0), late.now(2)}, 9995, STATE, 0, 9995);
        p.due("9995 and 3, no more", new int[] {late.goes(1), late.now(2), late.goes(0), late.now(0)}, 3, 9998, STATE, 1);
    }

    private static void does() {
        p.reads("`int does(int d)`: DONE: 1, if he was SENT OUT, 0. BAD; STATE: he is in no ROOM, minutes would be above 9999.");
        DoorCases x = Due.told(HOUSE);
        p.due("in no room", new int[] {x.does(0), x.does(2), x.now(2)}, STATE, BAD, 0);
        x.goes(1);
        p.due("no such thing", new int[] {x.does(-1), x.does(2)}, BAD, BAD);
        p.due("three times", new int[] {x.does(0), x.does(0), x.does(0), x.does(0)}, 0, 0, 1, STATE);
        p.due("minutes", x.now(2), 3 + 15);
        DoorCases late = Due.told("r1 0 0;d0 30;d0 10;d0 8;d0 1;");
        late.goes(0);
        for (int i = 0; i < 333; i++) {
            late.does(0);
        }
        p.due("9990 and 10, 8, 10, 1, 1", new int[] {late.does(1), late.does(2), late.does(1), late.does(3), late.does(3)},
            STATE, 0, STATE, 0, STATE);
        p.due("minutes", late.now(2), 9999);
    }

    private static void asks() {
        p.reads("`int asks(int trait)`: ASKED: 1 (he has it), 0. BAD; STATE: he is in no ROOM, it was asked, "
            + "there is no SUSPECT, minutes would be above 9999.");
        DoorCases x = Due.told(HOUSE);
        p.due("in no room", new int[] {x.asks(0), x.asks(5), x.asks(-1)}, STATE, BAD, BAD);
        x.goes(0);
        p.due("of 9", new int[] {x.asks(4), x.asks(3), x.asks(2), x.asks(1), x.asks(0)}, 0, 1, 0, 0, 1);
        p.due("it was asked", new int[] {x.asks(0), x.asks(3), x.now(2), x.now(5)}, STATE, STATE, 10, 31);
        DoorCases nobody = Due.told("r1 1 1;");
        nobody.goes(0);
        p.due("no suspect", new int[] {nobody.asks(0), nobody.asks(5), nobody.now(2)}, STATE, BAD, 0);
        DoorCases late = Due.told("r1 0 0;d0 30;d0 7;s1;");
        late.goes(0);
        for (int i = 0; i < 333; i++) {
            late.does(0);
        }
        late.does(1);
        p.due("9997 and 2, no more", new int[] {late.now(2), late.asks(0), late.now(2), late.asks(1), late.now(5)},
            9997, 1, 9999, STATE, 1);
    }

    private static void undo() {
        p.reads("`int undo()`: UNDONE: how many more may be. STATE: none.");
        DoorCases x = sentOutOfRoomOne();
        p.due("the door", nowBehindUndo(x, 3), 1, 1, 16, 0, 0, 1, 3, 3);
        p.due("feeling and what was done last", new int[] {x.room(1, 0), x.room(1, 4)}, 0, 1);
        p.due("the question", nowBehindUndo(x, 2), 1, 1, 14, 0, 0, 0, 7, 2);
        p.due("the doing", nowBehindUndo(x, 1), 1, 1, 3, 0, 0, 0, 7, 1);
        p.due("feeling and what was done last", new int[] {x.room(1, 0), x.room(1, 4)}, 7, NONE);
        p.due("the way", nowBehindUndo(x, 0), NONE, NONE, 0, 0, 0, 0, 7, 0);
        p.due("none", new int[] {x.undo(), x.undo(), x.goes(2), x.undo()}, STATE, STATE, 6, 0);
    }

    private static int[] nowBehindUndo(DoorCases x, int more) {
        p.due("undo()", x.undo(), more);
        return nowOf(x);
    }

    private static void soonest() {
        p.reads("`int soonest(int r, int k)`: SOONEST: minutes (k = -1), how many DOINGS (k = -2), the k-th (-5: not so many); "
            + "NONE. BAD (below -2); STATE: it is SOLVED.");
        DoorCases x = sentOutOfRoomOne();
        p.due("room 0", new int[] {x.soonest(0, -1), x.soonest(0, -2), x.soonest(0, 0), x.soonest(0, 1)}, 11, 1, 1, -5);
        p.due("room 1, solved", new int[] {x.soonest(1, -1), x.soonest(1, 0), x.soonest(1, -3)}, STATE, STATE, BAD);
        p.due("room 2, never", new int[] {x.soonest(2, -1), x.soonest(2, -2), x.soonest(2, 9), x.soonest(2, -3)},
            NONE, NONE, NONE, BAD);
        p.due("no such thing", new int[] {x.soonest(3, -1), x.soonest(-1, -1), x.soonest(0, -3)}, BAD, BAD, BAD);
        DoorCases y = Due.told("r30 1 1;d1 1;d0 2;");
        int ways = y.soonest(0, -2);
        p.due("31 times in full, something else between them", new int[] {ways, y.soonest(0, -1)}, 61, 31 + 60);
        p.due("the first, the second, the last, one more",
            new int[] {y.soonest(0, 0), y.soonest(0, 1), y.soonest(0, 60), y.soonest(0, 61)}, 0, 1, 0, -5);
    }

    private static void lovedRoundCountry() {
        DoorCases x = sentOutOfRoomOne();
        p.reads("`int loved()`: LOVED, as bits.");
        p.due("loved()", new int[] {x.loved(), Due.told("r0 0 1;r0 1 1;r0 0 1;d1 1;").loved()}, 4, 5);
        p.reads("`int round(int k)`: ROUND: WORTH (k = -1), minutes (k = -2), the k-th ROOM (-5). BAD (below -2).");
        p.due("from room 1 to room 0", new int[] {x.round(-1), x.round(-2), x.round(0), x.round(1), x.round(99)},
            30, 14, 0, -5, -5);
        p.due("no such thing", new int[] {x.round(-3), x.round(Integer.MIN_VALUE)}, BAD, BAD);
        p.reads("`int country()`: COUNTRY; NONE.");
        p.due("one more", x.country(), 11);
        p.due("never", Due.told("r0 0 1;r0 1 1;r0 0 1;d1 1;").country(), NONE);
    }

    private static void nextAndQuestions() {
        DoorCases x = inRoomOne();
        p.reads("`int next()`: NEXT; NONE.");
        p.due("5 or 9: trait 2", x.next(), 2);
        p.reads("`int questions()`: QUESTIONS.");
        p.due("one more", x.questions(), 1);
        x.asks(3);
        p.due("it was 9", new int[] {x.now(6), x.next(), x.questions()}, 2, NONE, 0);
    }

    private static void feltForgetTempersWhich() {
        DoorCases x = Due.told(HOUSE);
        p.reads("`int felt(int d, int v)`: FELT: how much there is. BAD; FULL.");
        p.due("no such thing", new int[] {x.felt(2, 0), x.felt(-1, 0), x.felt(0, -1), x.felt(0, 31), x.count(6)},
            BAD, BAD, BAD, BAD, 0);
        p.due("five", new int[] {x.felt(0, 8), x.felt(0, 8), x.felt(1, 14), x.felt(1, 14), x.felt(0, 8)}, 1, 2, 3, 4, 5);
        p.due("full", new int[] {x.felt(0, 8), x.felt(2, 8), x.count(6)}, FULL, BAD, 5);
        int told = x.tempers();
        p.reads("`int forget()`: Nothing was FELT: how much there was.");
        p.due("forget()", new int[] {x.forget(), x.count(6), x.forget()}, 5, 0, 0);
        p.reads("`int tempers()`: TEMPERS, as bits.");
        p.due("2, then any, then 3, then none", new int[] {told, x.tempers(), x.felt(0, 12), x.tempers(), x.felt(0, 0), x.tempers()},
            4, 15, 1, 8, 2, 0);
        p.reads("`int which(int d, int v)`: WHICH, as bits. BAD.");
        p.due("which", new int[] {x.which(0, 8), x.which(0, 4), x.which(0, 0), x.which(1, 7), x.which(1, 30)}, 1, 2, 4, 2, 0);
        p.due("no such thing", new int[] {x.which(2, 0), x.which(-1, 0), x.which(0, -1), x.which(0, 31)}, BAD, BAD, BAD, BAD);
    }

    private static void odds() {
        p.reads("`int odds(int r, int d, int x, int n, int what)`: ODDS: upper (what = 0), lower number (1), in least terms. "
            + "BAD; STATE: it is SOLVED.");
        DoorCases x = sentOutOfRoomOne();
        p.due("noticed at least twice of four by 3 of 10", new int[] {x.odds(0, 0, 7, 4, 0), x.odds(0, 0, 7, 4, 1)},
            3483, 10000);
        p.due("by 6 of 10, once: 3 of 5", new int[] {x.odds(0, 1, 4, 1, 0), x.odds(0, 1, 4, 1, 1)}, 3, 5);
        p.due("solved", new int[] {x.odds(1, 0, 0, 0, 0), x.odds(1, 0, 0, 0, 1)}, STATE, STATE);
        p.due("BAD ahead of it", new int[] {x.odds(1, 2, 0, 0, 0), x.odds(1, 0, 11, 0, 0), x.odds(1, 0, 0, 7, 0),
            x.odds(1, 0, 0, 0, 2)}, BAD, BAD, BAD, BAD);
        p.due("no such thing", new int[] {x.odds(3, 0, 0, 0, 0), x.odds(-1, 0, 0, 0, 0), x.odds(0, 2, 0, 0, 0),
            x.odds(0, -1, 0, 0, 0), x.odds(0, 0, 11, 0, 0), x.odds(0, 0, -1, 0, 0), x.odds(0, 0, 0, 7, 0),
            x.odds(0, 0, 0, -1, 0), x.odds(0, 0, 0, 0, 2), x.odds(0, 0, 0, 0, -1)},
            BAD, BAD, BAD, BAD, BAD, BAD, BAD, BAD, BAD, BAD);
    }

    private static void rate() {
        p.reads("`int rate(int kind, int r)`: RATE. NO: BAD.");
        DoorCases x = sentOutOfRoomOne();
        p.due("of room 1, at -4, 50 earned", new int[] {x.rate(0, 1), x.rate(1, 1), x.rate(2, 1), x.rate(3, 1), x.rate(4, 1),
            x.rate(5, 1)}, -4, 46, -5, 92, -4, 46);
        p.due("of room 2", new int[] {x.rate(2, 2), x.rate(4, 2)}, 5, 7);
        long before = x.trace();
        p.due("no such thing", new int[] {x.rate(-1, 0), x.rate(6, 0), x.rate(0, -1), x.rate(0, 3)}, NO, NO, NO, NO);
        p.due("no trace of it", x.trace(), before);
    }

    private static void keepAndBack() {
        p.reads("`int keep(int image)`: An IMAGE is kept: minutes. BAD.");
        DoorCases x = inRoomOne();
        p.due("keep", new int[] {x.keep(0), x.keep(-1), x.keep(2), x.now(7)}, 16, BAD, BAD, 3);
        p.reads("`int back(int image)`: All of that becomes as an IMAGE has it: minutes. BAD; STATE: none was kept.");
        x.does(0);
        p.due("none", new int[] {x.back(1), x.back(2), x.back(-1), x.now(7)}, STATE, BAD, BAD, 4);
        p.due("back", x.back(0), 16);
        p.due("in room 1", nowOf(x), 1, 1, 16, 0, 0, 1, 3, 0);
        p.due("room 1", roomOf(x, 1), 0, 1, 50, 0, 1);
        x.does(0);
        p.due("again, and kept anew", new int[] {x.keep(1), x.back(0), x.back(1), x.keep(0), x.back(0), x.now(3)},
            21, 16, 21, 21, 21, 2);
    }

    private static void count() {
        p.reads("`int count(int what)`: 0 ROOMS, 1 DOINGS, 2 SUSPECTS, 3 CULPRIT, 4 WALK, 5 NIGHT, 6 FELT, 7 letters of THE TEXT. BAD.");
        DoorCases x = Due.told(HOUSE + "s0;");
        x.felt(0, 1);
        x.type('r');
        x.type('r');
        int[] counts = new int[8];
        for (int what = 0; what < 8; what++) {
            counts[what] = x.count(what);
        }
        p.due("counts", counts, 3, 2, 4, 1, 3, 60, 1, 2);
        p.due("no such thing", new int[] {x.count(-1), x.count(8)}, BAD, BAD);
    }

    private static void trace() {
        p.reads("`long trace()`: THE TRACE.");
        DoorCases x = Due.told(HOUSE);
        x.rate(3, 0);
        x.rate(5, 0);
        p.due("a table and a mat", x.trace(), 1011 + 100001);
        p.due("asked again", x.trace(), 101012);
        DoorCases most = Due.told("r1 1 1;");
        for (int i = 0; i < 400; i++) {
            most.rate(5, 0);
        }
        p.due("400 mats", most.trace(), 40000400);
    }
}
