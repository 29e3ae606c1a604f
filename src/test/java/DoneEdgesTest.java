import java.io.IOException;
import java.util.function.Consumer;

/** The edges of promises 9 (goes), 10 (does), 11 (asks), 12 (undo). */
public final class DoneEdgesTest {
    private static final String HOUSE = "r9 1 1;r0 1 2;r9 2 3;r9 3 4;r0 3 5;d1 6;d2 7;d9 8;s3;s1;s2;c1;w3;";
    /** The way from room 0 to room 4 is 36 minutes, so that the minutes' end is not too many calls away. */
    private static final String LATE = "r0 0 0;r0 0 0;r0 1 7;r0 0 0;r0 0 0;d0 1;d1 30;s1;w9;";
    private static Edges e;

    public static void main(String[] args) throws IOException {
        e = new Edges("DoneEdgesTest", args);
        atFirst();
        howFar();
        goesRefused();
        halfAsMuch();
        lastInThatRoom();
        belowNought();
        doesRefused();
        asked();
        left();
        asksRefused();
        minutesOfGoing();
        minutesOfDoing();
        minutesOfAsking();
        badComesFirst();
        tenAreKnown();
        undoneAndDoneAgain();
        whatIsUndone();
        undoRefused();
        e.end();
    }

    private static void nothing(DoorCases x) {
    }

    private static void atFirst() {
        e.sentence("HE is in no ROOM, 0 minutes have gone by, nothing is SOLVED or asked at first.");
        DoorCases x = Due.told(HOUSE);
        e.due("now(0)", x.now(0), Edges.NONE);
        e.due("now(1)", x.now(1), Edges.NONE);
        e.due("now(2)", x.now(2), 0);
        e.due("now(3)", x.now(3), 0);
        e.due("now(4)", x.now(4), 0);
        e.due("now(5)", x.now(5), 0);
        e.due("now(7)", x.now(7), 0);
    }

    private static void howFar() {
        e.sentence("WALK times how far its number is from that of the ROOM where he is, or was last (none: from 0), in minutes");
        for (int r = 0; r < 5; r++) {
            for (int to = 0; to < 5; to++) {
                int from = r;
                DoorCases x = Edges.moment("r0 1 1;".repeat(5) + "w9;d1 1;", y -> y.goes(from));
                e.due("the way to " + r + " from none", x.now(2), 9 * r);
                e.due("goes(" + to + ") from " + r, x.goes(to), to == r ? Edges.STATE : 9 * Math.abs(to - r));
            }
        }
        DoorCases out = Edges.moment("r0 1 1;".repeat(5) + "w9;d1 1;", y -> y.goes(3));
        out.does(0);
        e.due("goes(1) from where he was last", out.goes(1), 18);
        e.due("minutes", out.now(2), 27 + 1 + 18);
        DoorCases near = Edges.moment("r0 1 1;".repeat(5) + "w0;", y -> y.goes(4));
        e.due("goes(0) by no walk", near.goes(0), 0);
        e.due("minutes", near.now(2), 0);
        e.due("he is there", near.now(0), 0);
        DoorCases first = Edges.moment("r0 1 1;".repeat(5), y -> y.goes(4));
        e.due("walk at first", first.now(2), 4);
    }

    private static void goesRefused() {
        e.sentence("GONE: minutes it took. BAD; STATE: it is SOLVED, he is there, minutes would be above 9999.");
        Consumer<DoorCases> sentOut = x -> {
            x.goes(1);
            x.does(0);
        };
        Consumer<DoorCases> there = sentOut.andThen(x -> x.goes(2));
        for (int r : new int[] {-1, 5, Edges.LEAST, Edges.GREATEST}) {
            e.unchanged("goes(" + r + ")", HOUSE, there, x -> x.goes(r), Edges.BAD);
            e.unchanged("goes(" + r + ") at first", HOUSE, DoneEdgesTest::nothing, x -> x.goes(r), Edges.BAD);
        }
        e.unchanged("goes(1), solved", HOUSE, sentOut, x -> x.goes(1), Edges.STATE);
        e.unchanged("goes(1), solved, from elsewhere", HOUSE, there, x -> x.goes(1), Edges.STATE);
        e.unchanged("goes(2), where he is", HOUSE, there, x -> x.goes(2), Edges.STATE);
        e.unchanged("goes(0), where he is", HOUSE, x -> x.goes(0), x -> x.goes(0), Edges.STATE);
        e.due("goes(0) at first, from none", Due.told(HOUSE).goes(0), 0);
        DoorCases x = Edges.moment(HOUSE, there);
        x.goes(0);
        e.due("goes(2), where he was and is no more", x.goes(2), 6);
    }

    private static void halfAsMuch() {
        e.sentence("FEELING is RUDE times TEMPER less, of a DOING that was the last one done in that ROOM half as much (cut).");
        for (int rude = 0; rude <= 9; rude++) {
            for (int temper = 0; temper <= 3; temper++) {
                DoorCases x = Due.told("r30 " + temper + " 1;d" + rude + " 1;");
                x.goes(0);
                int full = rude * temper;
                String what = " of " + rude + " times " + temper;
                x.does(0);
                e.due("the first time" + what, x.room(0, 0), 30 - full);
                boolean sentOut = 30 - full - full / 2 < 0;
                e.due("sent out the second time" + what, x.does(0), sentOut ? 1 : 0);
                e.due("the second time" + what, x.room(0, 0), 30 - full - full / 2);
            }
        }
        DoorCases again = Edges.moment("r30 1 1;d5 1;", x -> x.goes(0));
        int[] due = {25, 23, 21, 19, 17};
        for (int i = 0; i < due.length; i++) {
            again.does(0);
            e.due("a half each time behind the first, " + i, again.room(0, 0), due[i]);
        }
    }

    private static void lastInThatRoom() {
        e.sentence("of a DOING that was the last one done in that ROOM half as much (cut).");
        DoorCases x = Due.told("r30 1 1;r30 1 1;d4 1;d2 1;d0 1;s1;");
        x.goes(0);
        x.does(0);
        x.goes(1);
        x.does(0);
        e.due("in full in another room", x.room(1, 0), 26);
        x.does(1);
        e.due("in full behind another doing", x.room(1, 0), 24);
        x.goes(0);
        x.asks(0);
        x.does(0);
        e.due("half behind a walk and a question", x.room(0, 0), 24);
        x.does(2);
        x.does(0);
        e.due("in full behind a doing of no effect", x.room(0, 0), 20);
        x.goes(1);
        x.does(0);
        x.does(1);
        e.due("in full again", x.room(1, 0), 18);
    }

    private static void belowNought() {
        e.sentence("If FEELING is below 0 then, he is SENT OUT: the case is SOLVED, he is in no ROOM (its number is where he was last).");
        DoorCases just = Edges.moment("r6 1 8;r6 1 9;d6 4;d1 2;", x -> x.goes(1));
        e.due("does(0) down to 0", just.does(0), 0);
        e.due("still there", just.now(0), 1);
        e.due("nothing solved", just.now(3), 0);
        e.due("nothing earned", just.now(4), 0);
        e.due("does(1) down to -1", just.does(1), 1);
        e.due("feeling", just.room(1, 0), -1);
        e.due("in no room", just.now(0), Edges.NONE);
        e.due("where he was last", just.now(1), 1);
        e.due("solved", just.now(3), 2);
        e.due("earned", just.now(4), 9);
        e.due("minutes of both", just.now(2), 1 + 4 + 2);
        DoorCases stays = Edges.moment("r0 1 8;d1 4;d0 4;", x -> x.goes(0));
        e.due("does(1), nothing less of 0", stays.does(1), 0);
        e.due("does(0), 1 less of 0", stays.does(0), 1);
        DoorCases cut = Edges.moment("r1 1 8;d1 4;", x -> x.goes(0));
        for (int i = 0; i < 4; i++) {
            e.due("half of 1 is nothing, " + i, cut.does(0), 0);
            e.due("feeling", cut.room(0, 0), 0);
        }
    }

    private static void doesRefused() {
        e.sentence("DONE: 1, if he was SENT OUT, 0. BAD; STATE: he is in no ROOM, minutes would be above 9999.");
        Consumer<DoorCases> there = x -> x.goes(2);
        Consumer<DoorCases> sentOut = x -> {
            x.goes(1);
            x.does(0);
        };
        for (int d : new int[] {-1, 3, 5, Edges.LEAST, Edges.GREATEST}) {
            e.unchanged("does(" + d + ")", HOUSE, there, x -> x.does(d), Edges.BAD);
            e.unchanged("does(" + d + ") at first", HOUSE, DoneEdgesTest::nothing, x -> x.does(d), Edges.BAD);
        }
        for (int d = 0; d < 3; d++) {
            int doing = d;
            e.unchanged("does(" + d + ") at first", HOUSE, DoneEdgesTest::nothing, x -> x.does(doing), Edges.STATE);
            e.unchanged("does(" + d + "), sent out", HOUSE, sentOut, x -> x.does(doing), Edges.STATE);
        }
        e.due("does(2), the last there is", Edges.moment(HOUSE, there).does(2), 1);
    }

    private static void asked() {
        e.sentence("ASKED, in a ROOM: whether the CULPRIT has a TRAIT (0 .. 4): 2 minutes.");
        for (int traits = 0; traits < 32; traits++) {
            DoorCases x = Edges.moment("r0 0 0;s0;s" + traits + ";s31;c1;", y -> y.goes(0));
            for (int trait = 0; trait < 5; trait++) {
                e.due("asks(" + trait + ") of " + traits, x.asks(trait), traits >> trait & 1);
                e.due("minutes", x.now(2), 2 * (trait + 1));
            }
        }
    }

    private static void left() {
        e.sentence("LEFT: SUSPECTS (bits) who agree with the CULPRIT in all TRAITS that were asked.");
        e.due("nobody", Due.told("r0 0 0;").now(6), 0);
        e.due("one", Due.told("s5;").now(6), 1);
        e.due("all six, nothing asked", Due.told("s0;s1;s2;s4;s8;s16;").now(6), 63);
        DoorCases x = Edges.moment("r0 0 0;s0;s1;s2;s4;s8;s16;", y -> y.goes(0));
        for (int trait = 0; trait < 5; trait++) {
            x.asks(trait);
            e.due("left with " + trait, x.now(6), 63 & ~((4 << trait) - 2));
        }
        DoorCases other = Edges.moment("r0 0 0;s0;s1;s2;s4;s8;s16;c5;", y -> y.goes(0));
        other.asks(4);
        e.due("the sixth alone", other.now(6), 32);
        DoorCases alike = Edges.moment("r0 0 0;s7;s7;s6;s7;c3;", y -> y.goes(0));
        for (int trait = 0; trait < 5; trait++) {
            alike.asks(trait);
        }
        e.due("those alike, all asked", alike.now(6), 11);
    }

    private static void asksRefused() {
        e.sentence("BAD; STATE: he is in no ROOM, it was asked, there is no SUSPECT, minutes would be above 9999.");
        Consumer<DoorCases> there = x -> {
            x.goes(2);
            x.asks(0);
            x.asks(4);
        };
        Consumer<DoorCases> sentOut = x -> {
            x.goes(1);
            x.does(0);
        };
        for (int trait : new int[] {-1, 5, 6, 31, 32, Edges.LEAST, Edges.GREATEST}) {
            e.unchanged("asks(" + trait + ")", HOUSE, there, x -> x.asks(trait), Edges.BAD);
            e.unchanged("asks(" + trait + ") in no room", HOUSE, sentOut, x -> x.asks(trait), Edges.BAD);
            e.unchanged("asks(" + trait + ") about nobody", "r0 0 0;", x -> x.goes(0), x -> x.asks(trait), Edges.BAD);
        }
        e.unchanged("asks(0) at first", HOUSE, DoneEdgesTest::nothing, x -> x.asks(0), Edges.STATE);
        e.unchanged("asks(0), sent out", HOUSE, sentOut, x -> x.asks(0), Edges.STATE);
        e.unchanged("asks(0) again", HOUSE, there, x -> x.asks(0), Edges.STATE);
        e.unchanged("asks(4) again", HOUSE, there, x -> x.asks(4), Edges.STATE);
        e.unchanged("asks(0) again elsewhere", HOUSE, there.andThen(x -> x.goes(3)), x -> x.asks(0), Edges.STATE);
        for (int t = 0; t < 5; t++) {
            int trait = t;
            e.unchanged("asks(" + t + ") about nobody", "r0 0 0;", x -> x.goes(0), x -> x.asks(trait), Edges.STATE);
        }
        e.due("asks(3), not asked yet", Edges.moment(HOUSE, there).asks(3), 0);
        e.due("asks(0) about one", Edges.moment("r0 0 0;s1;", x -> x.goes(0)).asks(0), 1);
    }

    /** 9936 minutes, in room 0. */
    private static void late(DoorCases x) {
        for (int i = 0; i < 138; i++) {
            x.goes(4);
            x.goes(0);
        }
    }

    /** 9990 minutes, in room 2, and so many more. */
    private static Consumer<DoorCases> later(int more) {
        return x -> {
            late(x);
            x.goes(4);
            x.goes(2);
            for (int i = 0; i < more; i++) {
                x.does(0);
            }
        };
    }

    private static void minutesOfGoing() {
        e.sentence("Minutes are 9999 at most.");
        DoorCases x = Edges.moment(LATE, later(0));
        e.due("minutes", x.now(2), 9990);
        e.due("goes(1) to 9999", x.goes(1), 9);
        e.due("minutes", x.now(2), 9999);
        e.unchangedLate("goes(1) to 10000", LATE, later(1), y -> y.goes(1), Edges.STATE);
        e.unchangedLate("goes(0) to 10008", LATE, later(0), y -> y.goes(0), Edges.STATE);
        e.due("goes(1) from 9972", Edges.moment(LATE, y -> {
            late(y);
            y.goes(4);
        }).goes(1), 27);
        DoorCases near = Due.told("r0 0 0;r0 0 0;d0 30;d0 9;w0;");
        near.goes(0);
        for (int i = 0; i < 333; i++) {
            near.does(0);
        }
        near.does(1);
        e.due("minutes", near.now(2), 9999);
        e.due("goes(1) by no walk at 9999", near.goes(1), 0);
        e.due("goes(0) by no walk at 9999", near.goes(0), 0);
        e.due("undo() at 9999", near.undo(), 9);
    }

    private static void minutesOfDoing() {
        e.sentence("STATE: he is in no ROOM, minutes would be above 9999.");
        Consumer<DoorCases> to9969 = x -> {
            late(x);
            x.does(1);
            x.does(0);
            x.does(0);
            x.does(0);
        };
        DoorCases x = Edges.moment(LATE, to9969);
        e.due("minutes", x.now(2), 9969);
        e.due("does(1) to 9999", x.does(1), 0);
        e.due("minutes", x.now(2), 9999);
        e.due("does(0) to 10000", x.does(0), Edges.STATE);
        e.unchangedLate("does(1) to 10000", LATE, to9969.andThen(y -> y.does(0)), y -> y.does(1), Edges.STATE);
        e.unchangedLate("does(1) to 10020, by which he would be sent out", LATE, later(0), y -> y.does(1), Edges.STATE);
        e.due("does(0) to 9999", Edges.moment(LATE, later(8)).does(0), 0);
        e.unchangedLate("does(0) to 10000", LATE, later(9), y -> y.does(0), Edges.STATE);
    }

    private static void minutesOfAsking() {
        e.sentence("it was asked, there is no SUSPECT, minutes would be above 9999.");
        DoorCases x = Edges.moment(LATE, later(7));
        e.due("asks(0) to 9999", x.asks(0), 1);
        e.due("minutes", x.now(2), 9999);
        e.unchangedLate("asks(0) to 10000", LATE, later(8), y -> y.asks(0), Edges.STATE);
        e.unchangedLate("asks(0) to 10001", LATE, later(9), y -> y.asks(0), Edges.STATE);
    }

    private static void badComesFirst() {
        e.sentence("Refused, and nothing changes, the first of these: BAD (a number is not as told, or there is no such thing), "
            + "STATE (as told), FULL.");
        DoorCases x = Edges.moment(LATE, later(9));
        e.due("minutes", x.now(2), 9999);
        e.due("goes(5)", x.goes(5), Edges.BAD);
        e.due("goes(-1)", x.goes(-1), Edges.BAD);
        e.due("does(2)", x.does(2), Edges.BAD);
        e.due("does(-1)", x.does(-1), Edges.BAD);
        e.due("asks(5)", x.asks(5), Edges.BAD);
        e.due("asks(-1)", x.asks(-1), Edges.BAD);
        DoorCases none = Due.told("");
        e.due("goes(0) without rooms", none.goes(0), Edges.BAD);
        e.due("does(0) without doings, in no room", none.does(0), Edges.BAD);
        e.due("asks(0) without suspects, in no room", none.asks(0), Edges.STATE);
        e.due("asks(5) without suspects, in no room", none.asks(5), Edges.BAD);
    }

    private static void tenAreKnown() {
        e.sentence("UNDONE: the latest goes(), does(), asks() that was not refused (10 are known, older ones are lost).");
        for (int steps = 1; steps <= 25; steps++) {
            DoorCases x = Due.told("r0 0 0;r0 0 0;r0 0 0;d0 1;w0;");
            x.goes(0);
            for (int i = 1; i < steps; i++) {
                x.does(0);
            }
            int known = Math.min(steps, 10);
            e.due("known behind " + steps, x.now(7), known);
            for (int i = known - 1; i >= 0; i--) {
                e.due("undo() behind " + steps, x.undo(), i);
                e.due("now(7) behind " + steps, x.now(7), i);
            }
            e.due("undo() of what is lost behind " + steps, x.undo(), Edges.STATE);
            e.due("minutes then", x.now(2), Math.max(steps - 11, 0));
            e.due("where he is then", x.now(0), steps <= 10 ? Edges.NONE : 0);
        }
    }

    private static void undoneAndDoneAgain() {
        e.sentence("(10 are known, older ones are lost)");
        DoorCases x = Edges.moment("r0 0 0;d0 1;d0 10;", y -> y.goes(0));
        for (int i = 0; i < 12; i++) {
            x.does(0);
        }
        for (int i = 0; i < 4; i++) {
            x.undo();
        }
        e.due("six are left", x.now(7), 6);
        for (int i = 0; i < 3; i++) {
            x.does(1);
        }
        e.due("nine are known", x.now(7), 9);
        x.does(1);
        e.due("ten are known", x.now(7), 10);
        x.does(1);
        e.due("still ten", x.now(7), 10);
        e.due("minutes", x.now(2), 8 + 50);
        int[] due = {48, 38, 28, 18, 8, 7, 6, 5, 4, 3};
        for (int i = 0; i < 10; i++) {
            e.due("undo()", x.undo(), 9 - i);
            e.due("minutes behind undo()", x.now(2), due[i]);
        }
        e.due("undo() of what is lost", x.undo(), Edges.STATE);
        e.due("minutes stay", x.now(2), 3);
    }

    private static void whatIsUndone() {
        e.sentence("UNDONE: the latest goes(), does(), asks() that was not refused");
        DoorCases x = Edges.moment(HOUSE, y -> y.goes(3));
        String there = Edges.momentOf(x);
        x.asks(1);
        String asked = Edges.momentOf(x);
        x.does(0);
        String done = Edges.momentOf(x);
        x.does(0);
        String again = Edges.momentOf(x);
        x.does(2);
        String sentOut = Edges.momentOf(x);
        x.goes(0);
        x.goes(5);
        x.goes(0);
        x.does(3);
        x.asks(1);
        x.asks(5);
        x.felt(0, 3);
        x.keep(0);
        x.type('w');
        x.rate(0, 0);
        e.due("six are known", x.now(7), 6);
        x.undo();
        e.due("goes() undone", Edges.momentOf(x), sentOut);
        x.undo();
        e.due("does() by which he was sent out undone", Edges.momentOf(x), again);
        x.undo();
        e.due("does() undone", Edges.momentOf(x), done);
        e.due("half as much again", x.does(0), 0);
        e.due("as it was done", Edges.momentOf(x), again);
        x.undo();
        x.undo();
        e.due("the first does() undone", Edges.momentOf(x), asked);
        x.undo();
        e.due("asks() undone", Edges.momentOf(x), there);
        e.due("asks(1) once more", x.asks(1), 0);
        x.undo();
        x.undo();
        e.due("in no room", x.now(1), Edges.NONE);
        e.due("what was felt stays", x.count(6), 1);
        e.due("the text stays", x.count(7), 1);
        e.due("the trace stays", x.trace(), 1);
        e.due("the image stays", x.back(0), 9 + 2 + 6 + 6 + 8 + 9);
    }

    private static void undoRefused() {
        e.sentence("UNDONE: how many more may be. STATE: none.");
        e.unchanged("undo() at first", HOUSE, DoneEdgesTest::nothing, DoorCases::undo, Edges.STATE);
        e.unchanged("undo() behind all was undone", HOUSE, x -> {
            x.goes(0);
            x.keep(1);
            x.undo();
        }, DoorCases::undo, Edges.STATE);
        e.unchanged("undo() behind refused calls", HOUSE, x -> {
            x.does(0);
            x.asks(0);
            x.goes(5);
        }, DoorCases::undo, Edges.STATE);
        e.unchanged("undo() behind back()", HOUSE, x -> {
            x.goes(0);
            x.keep(0);
            x.does(0);
            x.back(0);
        }, DoorCases::undo, Edges.STATE);
        DoorCases x = Edges.moment(HOUSE, y -> y.goes(0));
        e.due("undo() of one", x.undo(), 0);
        x.goes(0);
        x.does(0);
        e.due("undo() of two", x.undo(), 1);
    }
}
