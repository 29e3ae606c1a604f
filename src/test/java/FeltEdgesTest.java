import java.io.IOException;
import java.util.function.Consumer;

/** The edges of promises 19 (felt), 20 (forget), 21 (tempers), 22 (which), 23 (odds). */
public final class FeltEdgesTest {
    private static final String HOUSE = "r9 1 5;r0 1 6;r5 0 7;r7 3 8;r4 2 9;d4 6;d2 3;d0 1;s3;s1;w2;";
    private static Edges e;

    public static void main(String[] args) throws IOException {
        e = new Edges("FeltEdgesTest", args);
        fiveAtMost();
        feltRefused();
        forgotten();
        tempers();
        whichRooms();
        whichRefused();
        oddsRefused();
        howOften();
        overlooked();
        belowNought();
        halfDoesNotMatter();
        leastTerms();
        nothingIsChanged();
        e.end();
    }

    private static void live(DoorCases x) {
        x.goes(1);
        x.does(0);
        x.keep(1);
        x.goes(4);
        x.does(1);
        x.felt(0, 4);
        x.felt(1, 2);
    }

    private static Consumer<DoorCases> five() {
        return x -> {
            live(x);
            for (int i = 0; i < 3; i++) {
                x.felt(2, 0);
            }
        };
    }

    private static void fiveAtMost() {
        e.sentence("FELT (5 at most): a DOING (not the last one done there) made a FEELING v (0 .. 30) less.");
        DoorCases x = Due.told("d9 1;d0 1;d0 1;d0 1;d0 30;");
        for (int i = 1; i <= 5; i++) {
            e.due("felt, the " + i + "-th", x.felt(i - 1, i % 2 == 0 ? 0 : 30), i);
            e.due("count(6)", x.count(6), i);
        }
        e.due("felt, the sixth", x.felt(0, 0), Edges.FULL);
        e.due("count(6)", x.count(6), 5);
        DoorCases room = Edges.moment(HOUSE, y -> y.goes(0));
        room.felt(0, 4);
        e.due("the feeling of the room where he is stays", room.room(0, 0), 9);
        e.due("nothing done", room.room(0, 4), Edges.NONE);
        e.due("nothing more to be undone", room.now(7), 1);
    }

    private static void feltRefused() {
        e.sentence("`int felt(int d, int v)`: FELT: how much there is. BAD; FULL.");
        for (int d : new int[] {-1, 3, 5, Edges.LEAST, Edges.GREATEST}) {
            e.unchanged("felt(" + d + ", 0)", HOUSE, FeltEdgesTest::live, x -> x.felt(d, 0), Edges.BAD);
            e.unchanged("felt(" + d + ", 0) when full", HOUSE, five(), x -> x.felt(d, 0), Edges.BAD);
        }
        for (int v : new int[] {-1, 31, Edges.LEAST, Edges.GREATEST}) {
            e.unchanged("felt(0, " + v + ")", HOUSE, FeltEdgesTest::live, x -> x.felt(0, v), Edges.BAD);
            e.unchanged("felt(0, " + v + ") when full", HOUSE, five(), x -> x.felt(0, v), Edges.BAD);
        }
        e.unchanged("felt(0, 0) when full", HOUSE, five(), x -> x.felt(0, 0), Edges.FULL);
        e.unchanged("felt(2, 30) when full", HOUSE, five(), x -> x.felt(2, 30), Edges.FULL);
        DoorCases x = Due.told(HOUSE);
        e.due("felt(0, 0)", x.felt(0, 0), 1);
        e.due("felt(2, 30)", x.felt(2, 30), 2);
    }

    private static void forgotten() {
        e.sentence("Nothing was FELT: how much there was.");
        e.unchanged("forget() of nothing", HOUSE, x -> x.goes(0), DoorCases::forget, 0);
        DoorCases x = Edges.moment(HOUSE, five());
        e.due("tempers()", x.tempers(), 2);
        e.due("forget() of five", x.forget(), 5);
        e.due("forget() again", x.forget(), 0);
        e.due("count(6)", x.count(6), 0);
        e.due("tempers() of nothing", x.tempers(), 15);
        e.due("felt(0, 8) behind forget()", x.felt(0, 8), 1);
        e.due("tempers() of the new one alone", x.tempers(), 4);
        e.due("forget() of one", x.forget(), 1);
        e.due("what can be undone stays", x.now(7), 4);
    }

    private static void tempers() {
        e.sentence("TEMPERS: 0 .. 3 (bits) by each of which all that was FELT would be so.");
        e.due("nothing felt", Due.told(HOUSE).tempers(), 15);
        for (int rude = 0; rude <= 9; rude++) {
            for (int v = 0; v <= 30; v++) {
                DoorCases x = Due.told("d" + rude + " 1;");
                x.felt(0, v);
                int bits = 0;
                for (int temper = 0; temper < 4; temper++) {
                    bits += rude * temper == v ? 1 << temper : 0;
                }
                e.due("tempers() of " + rude + " that made " + v, x.tempers(), bits);
            }
        }
        DoorCases all = Due.told("d1 1;d2 1;d3 1;d4 1;d9 1;");
        int[] v = {3, 6, 9, 12, 27};
        for (int d = 0; d < 5; d++) {
            all.felt(d, v[d]);
            e.due("tempers() with " + d, all.tempers(), 8);
        }
        DoorCases last = Due.told("d1 1;d0 1;");
        for (int i = 0; i < 4; i++) {
            last.felt(1, 0);
        }
        e.due("four that say nothing", last.tempers(), 15);
        last.felt(0, 2);
        e.due("the fifth says it", last.tempers(), 4);
        DoorCases first = Due.told("d1 1;d0 1;");
        first.felt(0, 2);
        first.felt(0, 1);
        first.felt(1, 0);
        e.due("two that can't be together", first.tempers(), 0);
    }

    private static void whichRooms() {
        e.sentence("WHICH of a DOING, v: ROOMS (bits) where, if it were not the last one done there, it would make FEELING just v less.");
        DoorCases x = Due.told(HOUSE);
        e.due("which(0, 4)", x.which(0, 4), 3);
        e.due("which(0, 0)", x.which(0, 0), 4);
        e.due("which(0, 12)", x.which(0, 12), 8);
        e.due("which(0, 8)", x.which(0, 8), 16);
        e.due("which(0, 7)", x.which(0, 7), 0);
        e.due("which(0, 9)", x.which(0, 9), 0);
        e.due("which(0, 2), a half", x.which(0, 2), 0);
        e.due("which(1, 2)", x.which(1, 2), 3);
        e.due("which(2, 0)", x.which(2, 0), 31);
        e.due("which(2, 30)", x.which(2, 30), 0);
        x.goes(0);
        x.does(0);
        e.due("which(0, 4), the last one done there", x.which(0, 4), 3);
        e.due("which(0, 2), the last one done there", x.which(0, 2), 0);
        e.due("which(0, 4) without rooms", Due.told("d4 1;").which(0, 4), 0);
        e.due("which(0, 0) without rooms", Due.told("d0 1;").which(0, 0), 0);
        e.due("which(0, 27), the most there is", Due.told("r0 3 0;d9 1;").which(0, 27), 1);
    }

    private static void whichRefused() {
        e.sentence("`int which(int d, int v)`: WHICH, as bits. BAD.");
        for (int d : new int[] {-1, 3, 5, Edges.LEAST, Edges.GREATEST}) {
            e.unchanged("which(" + d + ", 0)", HOUSE, FeltEdgesTest::live, x -> x.which(d, 0), Edges.BAD);
        }
        for (int v : new int[] {-1, 31, Edges.LEAST, Edges.GREATEST}) {
            e.unchanged("which(0, " + v + ")", HOUSE, FeltEdgesTest::live, x -> x.which(0, v), Edges.BAD);
        }
        DoorCases x = Due.told(HOUSE);
        e.due("which(0, 30)", x.which(0, 30), 0);
        e.due("which(2, 0)", x.which(2, 0), 31);
    }

    private static void oddsRefused() {
        e.sentence("ODDS: upper (what = 0), lower number (1), in least terms. BAD; STATE: it is SOLVED.");
        int[][] bad = {
            {-1, 0, 5, 3, 0}, {5, 0, 5, 3, 0}, {Edges.LEAST, 0, 5, 3, 0}, {Edges.GREATEST, 0, 5, 3, 0},
            {0, -1, 5, 3, 0}, {0, 3, 5, 3, 0}, {0, Edges.LEAST, 5, 3, 0}, {0, Edges.GREATEST, 5, 3, 0},
            {0, 0, -1, 3, 0}, {0, 0, 11, 3, 0}, {0, 0, Edges.LEAST, 3, 0}, {0, 0, Edges.GREATEST, 3, 0},
            {0, 0, 5, -1, 0}, {0, 0, 5, 7, 0}, {0, 0, 5, Edges.LEAST, 0}, {0, 0, 5, Edges.GREATEST, 0},
            {0, 0, 5, 3, -1}, {0, 0, 5, 3, 2}, {0, 0, 5, 3, Edges.LEAST}, {0, 0, 5, 3, Edges.GREATEST}};
        for (int[] b : bad) {
            String call = "odds(" + b[0] + ", " + b[1] + ", " + b[2] + ", " + b[3] + ", " + b[4] + ")";
            e.unchanged(call, HOUSE, FeltEdgesTest::live, x -> x.odds(b[0], b[1], b[2], b[3], b[4]), Edges.BAD);
            if (b[0] == 0) {
                e.unchanged(call + " of a solved room", HOUSE, FeltEdgesTest::live,
                    x -> x.odds(1, b[1], b[2], b[3], b[4]), Edges.BAD);
            }
        }
        for (int what = 0; what < 2; what++) {
            int part = what;
            e.unchanged("odds(1, 0, 5, 3, " + what + ") of a solved room", HOUSE, FeltEdgesTest::live,
                x -> x.odds(1, 0, 5, 3, part), Edges.STATE);
            e.unchanged("odds(1, 2, 10, 0, " + what + ") of a solved room", HOUSE, FeltEdgesTest::live,
                x -> x.odds(1, 2, 10, 0, part), Edges.STATE);
        }
        DoorCases x = Edges.moment(HOUSE, FeltEdgesTest::live);
        odds(x, 4, 2, 0, 0, 0, 1);
        odds(x, 4, 0, 10, 6, 0, 1);
        odds(x, 4, 0, 0, 6, 1, 1);
    }

    private static void odds(DoorCases x, int r, int d, int by, int n, long upper, long lower) {
        String call = "odds(" + r + ", " + d + ", " + by + ", " + n + ", ";
        e.due(call + "0)", x.odds(r, d, by, n, 0), upper);
        e.due(call + "1)", x.odds(r, d, by, n, 1), lower);
    }

    private static void howOften() {
        e.sentence("a DOING by x (0 .. 10), n (0 .. 6): it is done n times there");
        DoorCases x = Due.told("r0 1 1;r5 1 1;d1 1;");
        long[] upper = {0, 3, 51, 657, 7599, 83193, 882351};
        long lower = 1;
        for (int n = 0; n <= 6; n++) {
            odds(x, 0, 0, 7, n, upper[n], lower);
            lower *= 10;
        }
        odds(x, 1, 0, 0, 5, 0, 1);
        odds(x, 1, 0, 0, 6, 1, 1);
        odds(x, 1, 0, 1, 6, 531441, 1000000);
        odds(x, 1, 0, 9, 6, 1, 1000000);
    }

    private static void overlooked() {
        e.sentence("each time overlooked by x of 10");
        DoorCases x = Due.told("r0 1 1;d1 1;d0 1;");
        long[][] due = {{1, 1}, {9, 10}, {4, 5}, {7, 10}, {3, 5}, {1, 2}, {2, 5}, {3, 10}, {1, 5}, {1, 10}, {0, 1}};
        for (int by = 0; by <= 10; by++) {
            odds(x, 0, 0, by, 1, due[by][0], due[by][1]);
            odds(x, 0, 0, by, 0, 0, 1);
            odds(x, 0, 1, by, 6, 0, 1);
        }
        odds(x, 0, 0, 0, 6, 1, 1);
        odds(x, 0, 0, 10, 6, 0, 1);
    }

    private static void belowNought() {
        e.sentence("that FEELING is below 0 then: a fraction.");
        odds(Due.told("r6 1 1;d3 1;"), 0, 0, 0, 2, 0, 1);
        odds(Due.told("r5 1 1;d3 1;"), 0, 0, 0, 2, 1, 1);
        odds(Due.told("r6 1 1;d3 1;"), 0, 0, 5, 3, 1, 8);
        odds(Due.told("r5 1 1;d3 1;"), 0, 0, 5, 3, 1, 2);
        odds(Due.told("r30 3 1;d9 1;"), 0, 0, 5, 2, 1, 4);
        odds(Due.told("r27 3 1;d9 1;"), 0, 0, 0, 1, 0, 1);
        odds(Due.told("r26 3 1;d9 1;"), 0, 0, 0, 1, 1, 1);
        odds(Due.told("r0 0 1;d9 1;"), 0, 0, 0, 6, 0, 1);
        odds(Due.told("r30 1 1;d5 1;"), 0, 0, 0, 6, 0, 1);
        odds(Due.told("r29 1 1;d5 1;"), 0, 0, 0, 6, 1, 1);
    }

    private static void halfDoesNotMatter() {
        e.sentence("(half or not does not matter: each time RUDE times TEMPER less)");
        DoorCases x = Edges.moment("r9 1 1;d4 1;", y -> y.goes(0));
        odds(x, 0, 0, 0, 3, 1, 1);
        odds(x, 0, 0, 0, 2, 0, 1);
        x.does(0);
        e.due("feeling", x.room(0, 0), 5);
        odds(x, 0, 0, 0, 1, 0, 1);
        odds(x, 0, 0, 0, 2, 1, 1);
        x.does(0);
        e.due("feeling", x.room(0, 0), 3);
        odds(x, 0, 0, 0, 1, 1, 1);
    }

    private static void leastTerms() {
        e.sentence("ODDS: upper (what = 0), lower number (1), in least terms.");
        DoorCases x = Due.told("r0 1 1;r1 1 1;r3 1 1;d1 1;");
        odds(x, 0, 0, 5, 6, 63, 64);
        odds(x, 1, 0, 5, 6, 57, 64);
        odds(x, 2, 0, 5, 6, 11, 32);
        odds(x, 0, 0, 2, 2, 24, 25);
        odds(x, 0, 0, 4, 3, 117, 125);
        odds(x, 1, 0, 8, 6, 1077, 3125);
        odds(x, 0, 0, 1, 6, 999999, 1000000);
        odds(x, 0, 0, 9, 6, 468559, 1000000);
        odds(x, 0, 0, 10, 3, 0, 1);
        odds(x, 0, 0, 0, 3, 1, 1);
    }

    private static void nothingIsChanged() {
        e.sentence("(As things are NOW; nothing is changed.)");
        e.unchanged("tempers()", HOUSE, FeltEdgesTest::live, DoorCases::tempers, 2);
        e.unchanged("which(0, 4)", HOUSE, FeltEdgesTest::live, x -> x.which(0, 4), 3);
        e.unchanged("odds(0, 0, 5, 6, 1)", HOUSE, FeltEdgesTest::live, x -> x.odds(0, 0, 5, 6, 1), 32);
    }
}
