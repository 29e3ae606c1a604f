import java.io.IOException;
import java.util.function.Consumer;

/** The edges of promises 24 (rate), 25 (keep), 26 (back), 28 (trace). */
public final class KindsEdgesTest {
    private static final String HOUSE = "r9 1 5;r0 1 6;r5 0 7;r7 3 8;r0 2 9;d4 6;d2 3;d0 1;s3;s1;w2;";
    private static final int[] MARKS = {1, 11, 101, 1011, 10101, 100001};
    private static Edges e;

    public static void main(String[] args) throws IOException {
        e = new Edges("KindsEdgesTest", args);
        kinds();
        ratesBelowNought();
        rateRefused();
        traceAtFirst();
        eachOnce();
        traceStays();
        twoImages();
        keepRefused();
        backRefused();
        whatImagesKeep();
        nothingElse();
        nothingCanBeUndone();
        keptAnew();
        imagesAreGone();
        e.end();
    }

    private static void live(DoorCases x) {
        x.goes(1);
        x.does(0);
        x.keep(1);
        x.goes(4);
        x.asks(1);
        x.does(2);
        x.felt(0, 4);
        x.rate(1, 0);
    }

    private static void kinds() {
        e.sentence("ROOM its FEELING (1). PARLOUR up, and its WORTH (10). HALL up less its TEMPER (100). TABLE twice up (1000). "
            + "PASSAGE up, and its number (10000). MAT up, and EARNED (100000).");
        DoorCases x = Due.told(HOUSE);
        int[][] due = {{9, 14, 8, 28, 8, 9}, {0, 6, -1, 12, 0, 0}, {5, 12, 5, 24, 7, 5}, {7, 15, 4, 30, 7, 7}, {0, 9, -2, 18, 2, 0}};
        for (int r = 0; r < 5; r++) {
            for (int kind = 0; kind < 6; kind++) {
                e.due("rate(" + kind + ", " + r + ")", x.rate(kind, r), due[r][kind]);
            }
        }
        x.goes(1);
        x.does(0);
        e.due("rate(5, 0), 6 earned", x.rate(5, 0), 15);
        e.due("rate(5, 1), 6 earned", x.rate(5, 1), -4 + 6);
        DoorCases most = Due.told("r30 0 99;r0 3 0;");
        e.due("rate(3, 0), the most", most.rate(3, 0), 258);
        e.due("rate(2, 1), the least at first", most.rate(2, 1), -3);
    }

    private static void ratesBelowNought() {
        e.sentence("`NO = -1000000`: What none is, where a number may be below 0.");
        DoorCases x = Edges.moment("r0 3 1;d9 1;", y -> y.goes(0));
        x.does(0);
        int[] due = {-27, -26, -30, -52, -30, -26};
        for (int kind = 0; kind < 6; kind++) {
            e.due("rate(" + kind + ", 0), solved", x.rate(kind, 0), due[kind]);
        }
        e.due("room(0, 0)", x.room(0, 0), -27);
        DoorCases one = Edges.moment("r0 1 0;d1 1;", y -> y.goes(0));
        one.does(0);
        e.due("rate(0, 0) is -1", one.rate(0, 0), -1);
        e.due("rate(2, 0) is -2", one.rate(2, 0), -2);
        e.due("NO", DoorCases.NO, -1000000);
    }

    private static void rateRefused() {
        e.sentence("`int rate(int kind, int r)`: RATE. NO: BAD.");
        for (int wrong : new int[] {-1, 6, Edges.LEAST, Edges.GREATEST}) {
            e.unchanged("rate(" + wrong + ", 0)", HOUSE, KindsEdgesTest::live, x -> x.rate(wrong, 0), Edges.NO);
            e.unchanged("rate(" + wrong + ", 5)", HOUSE, KindsEdgesTest::live, x -> x.rate(wrong, 5), Edges.NO);
        }
        for (int wrong : new int[] {-1, 5, Edges.LEAST, Edges.GREATEST}) {
            for (int kind = 0; kind < 6; kind++) {
                int as = kind;
                e.unchanged("rate(" + kind + ", " + wrong + ")", HOUSE, KindsEdgesTest::live, x -> x.rate(as, wrong), Edges.NO);
            }
        }
        e.due("rate(0, 0) without rooms", new DoorCases().rate(0, 0), Edges.NO);
    }

    private static void traceAtFirst() {
        e.sentence("(numbers in brackets are added to THE TRACE, 0 at first");
        DoorCases x = new DoorCases();
        e.due("trace() of a new object", x.trace(), 0);
        x.rate(0, 0);
        x.rate(6, 0);
        e.due("trace() behind refused ones", x.trace(), 0);
        Due.tell(x, HOUSE);
        live(Due.told(HOUSE));
        e.due("trace() behind another object's", x.trace(), 0);
    }

    private static void eachOnce() {
        e.sentence("as often as rate() asks that body: each once; \"up\" is what the KIND above does)");
        long sum = 0;
        DoorCases x = Due.told(HOUSE);
        for (int kind = 0; kind < 6; kind++) {
            for (int times = 0; times < 3; times++) {
                x.rate(kind, times);
                sum += MARKS[kind];
                e.due("trace() behind rate(" + kind + ", " + times + ")", x.trace(), sum);
            }
        }
        DoorCases often = Due.told("r1 1 1;");
        for (int i = 0; i < 400; i++) {
            often.rate(5, 0);
        }
        e.due("trace() of 400", often.trace(), 400L * 100001);
    }

    private static void traceStays() {
        e.sentence("`long trace()`: THE TRACE.");
        DoorCases x = Edges.moment(HOUSE, KindsEdgesTest::live);
        e.due("trace()", x.trace(), 11);
        e.due("trace() again", x.trace(), 11);
        x.undo();
        e.due("trace() behind undo()", x.trace(), 11);
        x.back(1);
        e.due("trace() behind back()", x.trace(), 11);
        x.forget();
        x.clear();
        e.due("trace() behind forget(), clear()", x.trace(), 11);
        x.loved();
        x.round(-1);
        x.country();
        x.soonest(0, -1);
        e.due("trace() behind what does not rate", x.trace(), 11);
    }

    private static void twoImages() {
        e.sentence("IMAGES 0, 1 keep NOW");
        DoorCases x = Due.told(HOUSE);
        e.due("keep(0)", x.keep(0), 0);
        x.goes(3);
        e.due("keep(1)", x.keep(1), 6);
        x.does(0);
        e.due("back(0)", x.back(0), 0);
        e.due("back(1)", x.back(1), 6);
        e.due("back(1) again", x.back(1), 6);
        e.due("back(0) again", x.back(0), 0);
        e.due("where he is", x.now(0), Edges.NONE);
        DoorCases one = Edges.moment(HOUSE, y -> y.goes(3));
        e.due("keep(1) alone", one.keep(1), 6);
        e.due("back(0), not kept", one.back(0), Edges.STATE);
        e.due("back(1)", one.back(1), 6);
    }

    private static void keepRefused() {
        e.sentence("`int keep(int image)`: An IMAGE is kept: minutes. BAD.");
        for (int image : new int[] {-1, 2, 32, Edges.LEAST, Edges.GREATEST}) {
            e.unchanged("keep(" + image + ")", HOUSE, KindsEdgesTest::live, x -> x.keep(image), Edges.BAD);
        }
        DoorCases x = Edges.moment(HOUSE, KindsEdgesTest::live);
        String before = Due.look(x);
        e.due("keep(0)", x.keep(0), x.now(2));
        e.due("keep() changes nothing but the image", Due.look(x), before);
        e.due("what can be undone stays", x.undo(), 4);
    }

    private static void backRefused() {
        e.sentence("All of that becomes as an IMAGE has it: minutes. BAD; STATE: none was kept.");
        for (int image : new int[] {-1, 2, 32, 33, Edges.LEAST, Edges.GREATEST}) {
            e.unchanged("back(" + image + ")", HOUSE, KindsEdgesTest::live, x -> x.back(image), Edges.BAD);
            e.due("back(" + image + "), none kept", new DoorCases().back(image), Edges.BAD);
        }
        e.unchanged("back(0), none kept", HOUSE, KindsEdgesTest::live, x -> x.back(0), Edges.STATE);
        e.unchanged("back(1), none kept", HOUSE, x -> {
            x.goes(0);
            x.keep(0);
            x.does(0);
        }, x -> x.back(1), Edges.STATE);
        e.due("back(0) of a new object", new DoorCases().back(0), Edges.STATE);
        e.due("back(1) of a new object", new DoorCases().back(1), Edges.STATE);
    }

    private static void whatImagesKeep() {
        e.sentence("(where he is, was last, FEELINGS, what was done last in each ROOM, what is SOLVED, asked, minutes)");
        Consumer<DoorCases> more = x -> {
            x.does(1);
            x.does(1);
            x.goes(0);
            x.asks(0);
            x.does(0);
            x.goes(3);
            x.does(1);
        };
        DoorCases x = Edges.moment(HOUSE, KindsEdgesTest::live);
        String kept = Edges.momentOf(x);
        e.due("keep(0)", x.keep(0), 2 + 6 + 6 + 2 + 1);
        more.accept(x);
        e.due("something changed", !kept.equals(Edges.momentOf(x)));
        e.due("back(0)", x.back(0), 17);
        e.due("all as kept", Edges.momentOf(x), kept);
        e.due("earned as kept", x.now(4), 6);
        e.due("left as kept", x.now(6), 1);
        more.accept(x);
        e.due("back(0) once more", x.back(0), 17);
        e.due("all as kept once more", Edges.momentOf(x), kept);
        e.due("done last as kept", x.does(2), 0);
        e.due("back(1)", x.back(1), 2 + 6);
        e.due("in no room then", x.now(0), Edges.NONE);
        e.due("where he was last then", x.now(1), 1);
        e.due("goes(2) from there", x.goes(2), 2);
    }

    private static void nothingElse() {
        e.sentence("what is SOLVED, asked, minutes); nothing else");
        DoorCases x = Due.told(HOUSE);
        x.felt(0, 4);
        x.type('w');
        x.keep(0);
        x.felt(1, 2);
        x.type('5');
        x.rate(3, 0);
        x.goes(0);
        x.keep(1);
        e.due("back(0)", x.back(0), 0);
        e.due("what was felt stays", x.count(6), 2);
        e.due("the text stays", x.count(7), 2);
        e.due("the trace stays", x.trace(), 1011);
        e.due("the other image stays", x.back(1), 0);
        e.due("he is there", x.now(0), 0);
        x.forget();
        x.back(0);
        e.due("what was forgotten stays so", x.count(6), 0);
    }

    private static void nothingCanBeUndone() {
        e.sentence("(nothing can be UNDONE behind back())");
        DoorCases x = Edges.moment(HOUSE, KindsEdgesTest::live);
        x.keep(0);
        e.due("how many may be undone", x.now(7), 5);
        x.back(0);
        e.due("how many may be undone behind back()", x.now(7), 0);
        e.due("undo() behind back()", x.undo(), Edges.STATE);
        x.does(2);
        x.does(2);
        e.due("two behind back()", x.now(7), 2);
        e.due("undo() of one", x.undo(), 1);
        e.due("undo() of the other", x.undo(), 0);
        e.due("undo() of none", x.undo(), Edges.STATE);
        e.due("minutes as the image has them", x.now(2), 17);
        for (int i = 0; i < 12; i++) {
            x.does(2);
        }
        e.due("ten behind back()", x.now(7), 10);
    }

    private static void keptAnew() {
        e.sentence("An IMAGE is kept: minutes.");
        DoorCases x = Due.told(HOUSE);
        x.keep(0);
        x.goes(3);
        e.due("keep(0) anew", x.keep(0), 6);
        x.undo();
        e.due("undo() leaves the image", x.back(0), 6);
        e.due("where he is", x.now(0), 3);
        x.does(1);
        e.due("doings leave the image", x.back(0), 6);
        e.due("feeling", x.room(3, 0), 7);
    }

    private static void imagesAreGone() {
        e.sentence("nothing SOLVED, asked, FELT, IMAGES are gone.)");
        DoorCases x = Edges.moment(HOUSE, KindsEdgesTest::live);
        x.keep(0);
        Due.tell(x, HOUSE + "q");
        e.due("back(0) behind a fault", x.back(0), 17);
        e.due("back(1) behind a fault", x.back(1), 8);
        Due.tell(x, HOUSE);
        e.due("back(0) behind house()", x.back(0), Edges.STATE);
        e.due("back(1) behind house()", x.back(1), Edges.STATE);
        x.keep(1);
        e.due("back(0), the other is kept", x.back(0), Edges.STATE);
        e.due("back(1), kept anew", x.back(1), 0);
    }
}
