import java.io.IOException;
import java.util.function.Consumer;

/** The edges of promises 13 (soonest), 14 (loved), 15 (round), 16 (country). */
public final class SentOutEdgesTest {
    private static final String HOUSE = "r9 1 5;r0 1 6;r5 0 7;r7 3 8;r4 2 9;d4 6;d2 3;d0 1;s3;s1;w2;n60;";
    private static Edges e;

    public static void main(String[] args) throws IOException {
        e = new Edges("SentOutEdgesTest", args);
        fewestMinutes();
        fewestDoings();
        firstOfThese();
        asThingsAreNow();
        wereHeThere();
        whichPart();
        never();
        soonestRefused();
        longestRow();
        loved();
        tillNight();
        minutesNowToo();
        mostWorth();
        roundFewestMinutes();
        roundFirst();
        roundFromWhere();
        unlikeNotSolved();
        sentOutOfEachSoonest();
        roundParts();
        nothingToGoTo();
        moreThanHalf();
        solvedCount();
        withoutWalk();
        countryNone();
        nothingIsChanged();
        e.end();
    }

    private static void row(DoorCases x, int r, int minutes, int... doings) {
        e.due("soonest(" + r + ", -1)", x.soonest(r, -1), minutes);
        e.due("soonest(" + r + ", -2)", x.soonest(r, -2), doings.length);
        for (int k = 0; k < doings.length; k++) {
            e.due("soonest(" + r + ", " + k + ")", x.soonest(r, k), doings[k]);
        }
        e.due("soonest(" + r + ", " + doings.length + ")", x.soonest(r, doings.length), -5);
    }

    private static void row(String text, int minutes, int... doings) {
        row(Due.told(text), 0, minutes, doings);
    }

    private static void never(DoorCases x, int r) {
        for (int k : new int[] {-2, -1, 0, 1, 100, Edges.GREATEST}) {
            e.due("soonest(" + r + ", " + k + "), never", x.soonest(r, k), Edges.NONE);
        }
    }

    private static void fewestMinutes() {
        e.sentence("of all rows of DOINGS by which he is SENT OUT of it, were he there, that of fewest minutes");
        row("r3 1 1;d4 9;d2 4;d3 4;", 8, 1, 2);
        row("r3 1 1;d4 7;d2 4;d3 4;", 7, 0);
        // Just down to 0 is not out yet.
        row("r4 1 1;d4 3;d1 9;", 6, 0, 0);
        row("r4 1 1;d4 3;d1 2;", 5, 0, 1);
        row("r5 1 1;d4 3;d1 4;", 6, 0, 0);
        row("r0 1 1;d1 1;", 1, 0);
        row("r0 1 1;d1 30;d1 29;", 29, 1);
        // The second time in a row is a half, cut: 9 and 4 take 13.
        row("r12 1 1;d9 1;", 2, 0, 0);
        row("r13 1 1;d9 1;", 3, 0, 0, 0);
    }

    private static void fewestDoings() {
        e.sentence("that of fewest minutes, of several that of fewest DOINGS");
        row("r3 1 1;d2 4;d4 8;", 8, 1);
        row("r3 1 1;d1 2;d2 4;d4 8;", 8, 2);
        row("r3 1 1;d2 3;d4 10;", 9, 0, 0, 0);
        row("r3 1 1;d2 3;d4 9;", 9, 1);
        row("r5 1 1;d3 2;d6 4;", 4, 1);
    }

    private static void firstOfThese() {
        e.sentence("of several that of fewest DOINGS, of these the first (DOING by DOING)");
        row("r0 1 1;d1 5;d1 5;d1 5;d1 5;d1 5;", 5, 0);
        row("r5 1 1;d3 2;d3 2;", 4, 0, 1);
        row("r5 1 1;d3 2;d3 2;d3 2;", 4, 0, 1);
        row("r5 1 1;d4 2;d2 2;", 4, 0, 0);
        row("r5 1 1;d2 2;d4 2;", 4, 0, 1);
        row("r7 1 1;d3 2;d3 2;d2 2;", 6, 0, 1, 0);
        // The first doing decides ahead of the second: 0 2 comes ahead of 1 0.
        row("r6 1 1;d4 3;d3 3;d3 3;", 6, 0, 1);
        row("r6 1 1;d3 3;d1 9;d4 3;", 6, 0, 2);
    }

    private static void asThingsAreNow() {
        e.sentence("(As things are NOW; nothing is changed.)");
        DoorCases x = Edges.moment("r9 1 1;d6 5;d4 5;", y -> y.goes(0));
        row(x, 0, 10, 0, 1);
        x.does(0);
        row(x, 0, 5, 1);
        x.undo();
        x.does(1);
        row(x, 0, 5, 0);
        x.undo();
        row(x, 0, 10, 0, 1);
        // What was done last there makes a half of it.
        DoorCases half = Edges.moment("r7 1 1;d4 5;d1 9;", y -> y.goes(0));
        row(half, 0, 15, 0, 0, 0);
        half.does(0);
        row(half, 0, 10, 0, 0);
    }

    private static void wereHeThere() {
        e.sentence("by which he is SENT OUT of it, were he there");
        DoorCases x = Due.told("r3 1 1;r3 1 1;d4 5;w9;");
        row(x, 0, 5, 0);
        row(x, 1, 5, 0);
        x.goes(1);
        row(x, 0, 5, 0);
        row(x, 1, 5, 0);
        x.does(0);
        row(x, 0, 5, 0);
    }

    private static void whichPart() {
        e.sentence("SOONEST: minutes (k = -1), how many DOINGS (k = -2), the k-th (-5: not so many); NONE.");
        DoorCases x = Due.told("r5 1 1;d3 2;d3 7;d3 2;");
        e.due("soonest(0, -1)", x.soonest(0, -1), 4);
        e.due("soonest(0, -2)", x.soonest(0, -2), 2);
        e.due("soonest(0, 0)", x.soonest(0, 0), 0);
        e.due("soonest(0, 1)", x.soonest(0, 1), 2);
        e.due("soonest(0, 2)", x.soonest(0, 2), -5);
        e.due("soonest(0, 3)", x.soonest(0, 3), -5);
        e.due("soonest(0, greatest)", x.soonest(0, Edges.GREATEST), -5);
    }

    private static void never() {
        e.sentence("minutes; how many; the k-th; NONE (never).");
        never(Due.told("r0 1 1;"), 0);
        never(Due.told("r0 0 1;d9 1;d9 1;"), 0);
        never(Due.told("r0 3 1;d0 1;d0 1;"), 0);
        never(Due.told("r1 1 1;d1 1;"), 0);
        row("r0 1 1;d1 1;", 1, 0);
        row("r1 1 1;d1 1;d0 1;", 3, 0, 1, 0);
        row("r1 1 1;d1 1;d1 1;", 2, 0, 1);
        row("r1 2 1;d1 1;", 1, 0);
        row("r2 2 1;d1 1;", 2, 0, 0);
        // Once it was done last there, a doing of 1 does nothing any more.
        DoorCases x = Edges.moment("r1 1 1;d1 1;", y -> y.goes(0));
        x.does(0);
        e.due("feeling", x.room(0, 0), 0);
        never(x, 0);
    }

    private static void soonestRefused() {
        e.sentence("SOONEST: minutes (k = -1), how many DOINGS (k = -2), the k-th (-5: not so many); NONE. BAD (below -2); STATE: it is SOLVED.");
        Consumer<DoorCases> live = x -> {
            x.goes(1);
            x.does(0);
            x.goes(4);
        };
        for (int r : new int[] {-1, 5, Edges.LEAST, Edges.GREATEST}) {
            e.unchanged("soonest(" + r + ", 0)", HOUSE, live, x -> x.soonest(r, 0), Edges.BAD);
        }
        for (int k : new int[] {-3, -4, -9, Edges.LEAST}) {
            e.unchanged("soonest(0, " + k + ")", HOUSE, live, x -> x.soonest(0, k), Edges.BAD);
            e.unchanged("soonest(1, " + k + "), solved", HOUSE, live, x -> x.soonest(1, k), Edges.BAD);
            e.unchanged("soonest(2, " + k + "), never", HOUSE, live, x -> x.soonest(2, k), Edges.BAD);
            e.unchanged("soonest(5, " + k + ")", HOUSE, live, x -> x.soonest(5, k), Edges.BAD);
        }
        for (int k : new int[] {-2, -1, 0, 1, Edges.GREATEST}) {
            e.unchanged("soonest(1, " + k + "), solved", HOUSE, live, x -> x.soonest(1, k), Edges.STATE);
        }
        DoorCases x = Edges.moment(HOUSE, live);
        x.undo();
        x.undo();
        row(x, 1, 3, 1);
    }

    private static void longestRow() {
        e.sentence("SOONEST of a ROOM that is not SOLVED");
        DoorCases slow = Due.told("r30 1 1;d1 1;d0 30;");
        e.due("the longest row, minutes", slow.soonest(0, -1), 31 + 30 * 30);
        e.due("the longest row, how many", slow.soonest(0, -2), 61);
        for (int k = 0; k < 61; k++) {
            e.due("the longest row, " + k, slow.soonest(0, k), k % 2);
        }
        e.due("the longest row, one beyond", slow.soonest(0, 61), -5);
        row("r30 3 1;d9 30;", 60, 0, 0);
        row("r27 3 1;d9 30;", 60, 0, 0);
        row("r26 3 1;d9 30;", 30, 0);
    }

    private static void loved() {
        e.sentence("LOVED: ROOMS (bits) not SOLVED out of which he is never SENT.");
        e.due("no rooms", Due.told("d1 1;").loved(), 0);
        e.due("no doings", Due.told("r0 1 1;".repeat(5)).loved(), 31);
        e.due("none", Due.told("r0 1 1;".repeat(5) + "d1 1;").loved(), 0);
        e.due("the first", Due.told("r0 0 1;r0 1 1;d1 1;").loved(), 1);
        e.due("the fifth", Due.told("r0 1 1;".repeat(4) + "r0 0 1;d1 1;").loved(), 16);
        e.due("a half that is nothing", Due.told("r0 1 1;r1 1 1;r2 2 1;d1 1;").loved(), 2);
        DoorCases x = Edges.moment("r0 1 1;r0 0 1;d1 1;d0 1;", y -> y.goes(0));
        x.does(0);
        e.due("one solved", x.loved(), 2);
        DoorCases last = Edges.moment("r1 1 1;d1 1;", y -> y.goes(0));
        e.due("loved at first", last.loved(), 1);
        DoorCases parted = Edges.moment("r1 1 1;d1 1;d0 1;", y -> y.goes(0));
        parted.does(0);
        e.due("not loved, by a doing between", parted.loved(), 0);
    }

    private static void evening(DoorCases x, int worth, int minutes, int... rooms) {
        e.due("round(-1)", x.round(-1), worth);
        e.due("round(-2)", x.round(-2), minutes);
        for (int k = 0; k < rooms.length; k++) {
            e.due("round(" + k + ")", x.round(k), rooms[k]);
        }
        e.due("round(" + rooms.length + ")", x.round(rooms.length), -5);
    }

    private static void evening(String text, int worth, int minutes, int... rooms) {
        evening(Due.told(text), worth, minutes, rooms);
    }

    private static void tillNight() {
        e.sentence("that can be SOLVED till NIGHT (minutes NOW, too, NIGHT at most)");
        evening("r0 1 5;d1 10;n10;", 5, 10, 0);
        evening("r0 1 5;d1 10;n9;", 0, 0);
        evening("r0 1 5;r0 1 6;d1 10;w5;n25;", 11, 25, 0, 1);
        evening("r0 1 5;r0 1 6;d1 10;w5;n24;", 6, 15, 1);
        evening("r0 1 5;r0 1 6;d1 10;w5;n15;", 6, 15, 1);
        evening("r0 1 5;r0 1 6;d1 10;w5;n14;", 5, 10, 0);
        evening("r0 1 5;r0 1 6;d1 10;w5;n1;", 0, 0);
        evening("r0 1 5;d1 1;n1;", 5, 1, 0);
        String most = "r30 3 99;r30 3 99;r30 3 99;r30 3 99;d9 30;w9;";
        evening(most + "n267;", 396, 267, 0, 1, 2, 3);
        evening(most + "n266;", 297, 198, 0, 1, 2);
        // Till 120 at first.
        evening("r9 1 5;r9 1 6;r9 1 7;d4 30;d3 20;", 7, 72, 2);
        evening("r0 1 5;r0 1 6;r0 1 7;r0 1 8;d1 30;w0;", 26, 120, 0, 1, 2, 3);
        evening("r0 1 5;r0 1 6;r0 1 7;r0 1 8;d1 30;", 21, 93, 1, 2, 3);
    }

    private static void minutesNowToo() {
        e.sentence("(minutes NOW, too, NIGHT at most)");
        DoorCases x = Edges.moment("r0 1 5;r0 1 6;d1 10;d0 1;w5;n20;s1;", y -> y.goes(1));
        evening(x, 6, 10, 1);
        for (int i = 0; i < 5; i++) {
            x.does(1);
        }
        e.due("minutes NOW", x.now(2), 10);
        evening(x, 6, 10, 1);
        x.does(1);
        evening(x, 0, 0);
        x.undo();
        x.asks(0);
        evening(x, 0, 0);
        DoorCases past = Edges.moment("r0 1 5;r0 1 6;d1 1;d0 30;w0;n29;", y -> y.goes(1));
        past.does(1);
        evening(past, 0, 0);
        DoorCases just = Edges.moment("r0 1 5;r0 1 6;d1 1;d0 30;w0;n31;", y -> y.goes(1));
        just.does(1);
        evening(just, 6, 1, 1);
    }

    private static void mostWorth() {
        e.sentence("NIGHT at most) that of most WORTH");
        evening("r0 1 5;r0 1 9;r0 1 5;d1 10;w0;n20;", 14, 20, 0, 1);
        evening("r0 1 5;r0 1 9;r0 1 6;d1 10;w0;n20;", 15, 20, 1, 2);
        evening("r0 1 5;r0 1 9;r0 1 6;d1 10;w0;n10;", 9, 10, 1);
        evening("r0 1 5;r8 1 11;r0 1 5;d1 5;d9 10;w0;n10;", 11, 10, 1);
        evening("r0 1 5;r8 1 9;r0 1 5;d1 5;d9 10;w0;n10;", 10, 10, 0, 2);
        evening("r0 1 99;r0 1 99;r0 1 99;r0 1 99;r0 1 99;d1 1;w0;", 495, 5, 0, 1, 2, 3, 4);
    }

    private static void roundFewestMinutes() {
        e.sentence("that of most WORTH, of several that of fewest minutes");
        evening("r0 1 5;r0 1 5;d1 10;w1;n20;", 5, 10, 0);
        evening("r9 1 5;r0 1 5;d1 1;d9 10;w1;n10;", 5, 2, 1);
        evening("r0 1 0;d1 1;", 0, 0);
        evening("r0 1 0;r0 1 3;d1 1;w0;", 3, 1, 1);
        evening("r0 1 0;r0 1 3;d1 1;w1;", 3, 2, 1);
        evening("r0 1 4;r0 1 5;r0 1 6;d1 10;w5;n40;", 15, 40, 0, 1, 2);
        DoorCases x = Edges.moment("r0 1 4;r0 1 5;r0 1 6;d1 10;w5;n500;", y -> y.goes(2));
        evening(x, 15, 40, 2, 1, 0);
    }

    private static void roundFirst() {
        e.sentence("of several that of fewest minutes, of these the first (ROOM by ROOM): WORTH; minutes; the k-th ROOM (-5: not so many).");
        evening("r0 1 5;r0 1 5;r0 1 5;d1 10;w0;n20;", 10, 20, 0, 1);
        evening("r0 1 5;r0 1 5;r0 1 5;d1 10;w0;n10;", 5, 10, 0);
        evening("r0 1 5;r0 1 6;r0 1 4;d1 10;w0;", 15, 30, 0, 1, 2);
        DoorCases middle = Edges.moment("r0 1 5;r9 0 5;r0 1 5;d1 10;w1;n500;", y -> y.goes(1));
        evening(middle, 10, 23, 0, 2);
        // A room of no worth on the way takes minutes, so that it is left out.
        evening("r0 1 0;r0 1 5;d1 1;w1;", 5, 2, 1);
    }

    private static void roundFromWhere() {
        e.sentence("GONE to one behind another from where he is, or was last");
        String text = "r0 1 5;r0 1 5;r0 1 5;r0 1 5;r0 1 5;d1 10;w9;n30;";
        evening(text, 10, 29, 0, 1);
        DoorCases there = Edges.moment(text.replace("n30", "n66"), x -> x.goes(4));
        evening(there, 10, 29, 4, 3);
        there.does(0);
        evening(there, 5, 19, 3);
        DoorCases last = Edges.moment(text.replace("n30", "n46"), x -> x.goes(2));
        last.does(0);
        e.due("minutes NOW", last.now(2), 28);
        evening(last, 0, 0);
        DoorCases later = Edges.moment(text.replace("n30", "n47"), x -> x.goes(2));
        later.does(0);
        evening(later, 5, 19, 1);
    }

    private static void unlikeNotSolved() {
        e.sentence("ROUND: of all rows of unlike ROOMS not SOLVED");
        evening("r0 1 5;d1 1;n500;", 5, 1, 0);
        DoorCases x = Edges.moment("r0 1 9;r0 1 5;r0 0 9;d1 1;n500;", y -> y.goes(0));
        x.does(0);
        evening(x, 5, 2, 1);
        x.goes(1);
        x.does(0);
        evening(x, 0, 0);
        x.undo();
        evening(x, 5, 1, 1);
    }

    private static void sentOutOfEachSoonest() {
        e.sentence("SENT OUT of each SOONEST, that can be SOLVED till NIGHT");
        DoorCases x = Due.told("r9 1 5;r9 1 6;d6 5;d4 9;w1;n30;");
        evening(x, 11, 29, 0, 1);
        x.goes(0);
        x.does(1);
        e.due("minutes NOW", x.now(2), 9);
        evening(x, 11, 20, 0, 1);
        x.does(1);
        e.due("minutes NOW", x.now(2), 18);
        evening(x, 5, 5, 0);
        x.does(0);
        evening(x, 0, 0);
    }

    private static void roundParts() {
        e.sentence("ROUND: WORTH (k = -1), minutes (k = -2), the k-th ROOM (-5). BAD (below -2).");
        DoorCases x = Due.told("r0 1 5;r0 0 6;r0 1 7;d1 10;");
        e.due("round(-1)", x.round(-1), 12);
        e.due("round(-2)", x.round(-2), 22);
        e.due("round(0)", x.round(0), 0);
        e.due("round(1)", x.round(1), 2);
        e.due("round(2)", x.round(2), -5);
        e.due("round(5)", x.round(5), -5);
        e.due("round(greatest)", x.round(Edges.GREATEST), -5);
        DoorCases full = Due.told("r0 1 1;".repeat(5) + "d1 1;");
        e.due("round(4) of five", full.round(4), 4);
        e.due("round(5) of five", full.round(5), -5);
        for (int k : new int[] {-3, -4, -9, Edges.LEAST}) {
            e.unchanged("round(" + k + ")", HOUSE, y -> y.goes(1), y -> y.round(k), Edges.BAD);
            e.due("round(" + k + ") without rooms", new DoorCases().round(k), Edges.BAD);
        }
    }

    private static void nothingToGoTo() {
        e.sentence("WORTH; minutes; the k-th ROOM (-5: not so many).");
        evening("", 0, 0);
        evening("d9 1;", 0, 0);
        evening("r0 1 9;", 0, 0);
        evening("r0 0 9;d9 1;", 0, 0);
        DoorCases x = Due.told("r0 1 9;d1 1;");
        evening(x, 9, 1, 0);
        x.goes(0);
        x.does(0);
        evening(x, 0, 0);
    }

    private static void moreThanHalf() {
        e.sentence("COUNTRY: the fewest minutes (without WALK) by which he is SENT OUT of more than half of all ROOMS");
        int[] wanted = {1, 2, 2, 3, 3};
        for (int rooms = 1; rooms <= 5; rooms++) {
            e.due("country() of " + rooms, Due.told("r0 1 1;".repeat(rooms) + "d1 7;").country(), 7 * wanted[rooms - 1]);
        }
        e.due("the soonest of three", Due.told("r9 1 1;r0 1 1;r3 1 1;d1 1;d4 2;d9 4;d5 3;").country(), 1 + 2);
        e.due("the soonest of five", Due.told("r9 1 1;r8 1 1;r0 1 1;r3 1 1;r1 1 1;d1 1;d4 2;d9 4;").country(), 1 + 2 + 2);
        everyOrder("", "03589");
        e.due("NIGHT does not count", Due.told("r0 1 1;r0 1 1;d1 30;n1;").country(), 60);
    }

    /** Rooms of 1, 2, 3, 4 and 5 minutes, in every order: the three soonest make more than half. */
    private static void everyOrder(String rooms, String feelings) {
        if (feelings.isEmpty()) {
            e.due("the soonest of " + rooms, Due.told(rooms + "d1 1;d4 2;d6 3;d9 4;").country(), 1 + 2 + 3);
        }
        for (int i = 0; i < feelings.length(); i++) {
            everyOrder(rooms + "r" + feelings.charAt(i) + " 1 1;", feelings.substring(0, i) + feelings.substring(i + 1));
        }
    }

    private static void solvedCount() {
        e.sentence("(those SOLVED count, no minutes); NONE.");
        DoorCases x = Due.told("r0 1 1;".repeat(5) + "d1 7;");
        int[] due = {21, 14, 7, 0, 0, 0};
        for (int r = 0; r < 5; r++) {
            e.due("country() with " + r + " solved", x.country(), due[r]);
            x.goes(r);
            e.due("country() in room " + r, x.country(), due[r]);
            x.does(0);
        }
        e.due("country() with all solved", x.country(), 0);
        DoorCases two = Edges.moment("r0 1 1;r0 1 1;d1 7;", y -> y.goes(0));
        two.does(0);
        e.due("one of two is not more than half", two.country(), 7);
        DoorCases left = Edges.moment("r0 1 1;r0 1 1;r0 0 1;d1 7;", y -> y.goes(0));
        left.does(0);
        e.due("one solved, one loved of three", left.country(), 7);
        left.goes(1);
        left.does(0);
        e.due("two solved, one loved of three", left.country(), 0);
    }

    private static void withoutWalk() {
        e.sentence("the fewest minutes (without WALK)");
        e.due("far apart", Due.told("r0 0 1;r0 1 1;r0 0 1;r0 1 1;r0 1 1;d1 7;w9;").country(), 21);
        e.due("near", Due.told("r0 0 1;r0 1 1;r0 0 1;r0 1 1;r0 1 1;d1 7;w0;").country(), 21);
    }

    private static void countryNone() {
        e.sentence("`int country()`: COUNTRY; NONE.");
        e.due("no rooms", Due.told("d1 7;").country(), Edges.NONE);
        e.due("no doings", Due.told("r0 1 1;").country(), Edges.NONE);
        e.due("the one is loved", Due.told("r0 0 1;d1 7;").country(), Edges.NONE);
        e.due("one of two is loved", Due.told("r0 1 1;r0 0 1;d1 7;").country(), Edges.NONE);
        e.due("one of three is loved", Due.told("r0 1 1;r0 0 1;r0 1 1;d1 7;").country(), 14);
        e.due("two of three are loved", Due.told("r0 1 1;r0 0 1;r0 0 1;d1 7;").country(), Edges.NONE);
        e.due("one of four is loved", Due.told("r0 1 1;r0 0 1;r0 1 1;r0 1 1;d1 7;").country(), 21);
        e.due("two of four are loved", Due.told("r0 1 1;r0 0 1;r0 0 1;r0 1 1;d1 7;").country(), Edges.NONE);
        e.due("two of five are loved", Due.told("r0 1 1;r0 0 1;r0 0 1;r0 1 1;r0 1 1;d1 7;").country(), 21);
        e.due("three of five are loved", Due.told("r0 1 1;r0 0 1;r0 0 1;r0 0 1;r0 1 1;d1 7;").country(), Edges.NONE);
        DoorCases x = Edges.moment("r0 1 1;r0 0 1;d1 7;", y -> y.goes(0));
        x.does(0);
        e.due("one solved, one loved", x.country(), Edges.NONE);
    }

    private static void nothingIsChanged() {
        e.sentence("(As things are NOW; nothing is changed.)");
        Consumer<DoorCases> live = x -> {
            x.goes(1);
            x.does(0);
            x.keep(1);
            x.goes(4);
            x.does(1);
        };
        e.unchanged("soonest(4, -1)", HOUSE, live, x -> x.soonest(4, -1), 3);
        e.unchanged("soonest(4, 0)", HOUSE, live, x -> x.soonest(4, 0), 1);
        e.unchanged("soonest(2, 0)", HOUSE, live, x -> x.soonest(2, 0), Edges.NONE);
        e.unchanged("loved()", HOUSE, live, DoorCases::loved, 4);
        e.unchanged("round(-1)", HOUSE, live, x -> x.round(-1), 22);
        e.unchanged("round(2)", HOUSE, live, x -> x.round(2), 0);
        e.unchanged("round(3)", HOUSE, live, x -> x.round(3), -5);
        e.unchanged("country()", HOUSE, live, DoorCases::country, 9);
    }
}
