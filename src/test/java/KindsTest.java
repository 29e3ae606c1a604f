/** Promises 24 (rate), 25 (keep), 26 (back), 28 (trace). */
public final class KindsTest {
    private static final Due T = new Due("KindsTest");

    public static void main(String[] args) {
        rates();
        ratesRefused();
        images();
        imagesKeepNowAlone();
        T.end();
    }

    private static void rates() {
        DoorCases x = Due.told("r0 1 50;r9 0 1;r20 3 7;d2 1;");
        x.goes(0);
        x.does(0);
        int[] due = {20, 27, 17, 54, 19, 70};
        int[] marks = {1, 11, 101, 1011, 10101, 100001};
        long sum = 0;
        for (int kind = 0; kind < 6; kind++) {
            T.due("rate(" + kind + ", 2)", x.rate(kind, 2), due[kind]);
            sum += marks[kind];
            T.due("trace() behind rate(" + kind + ", 2)", x.trace(), sum);
        }
        int[] below = {-2, 48, -3, 96, -3, 48};
        for (int kind = 0; kind < 6; kind++) {
            T.due("rate(" + kind + ", 0), solved", x.rate(kind, 0), below[kind]);
            sum += marks[kind];
        }
        T.due("trace()", x.trace(), sum);
        T.due("rate(4, 1)", x.rate(4, 1), 10);
        x.undo();
        T.due("rate(5, 1) earns nothing behind undo()", x.rate(5, 1), 9);
        T.due("trace() is not undone", x.trace(), sum + 10101 + 100001);
    }

    private static void ratesRefused() {
        DoorCases x = Due.told("r0 1 50;");
        int[][] bad = {{6, 0}, {-1, 0}, {0, 1}, {0, -1}, {Integer.MAX_VALUE, 0}, {0, Integer.MIN_VALUE}};
        for (int[] b : bad) {
            T.due("rate(" + b[0] + ", " + b[1] + ")", x.rate(b[0], b[1]), DoorCases.NO);
        }
        T.due("trace() of nothing", x.trace(), 0);
    }

    private static void images() {
        DoorCases x = Due.told("r3 1 4;r9 2 7;d3 5;d1 2;s1;s2;w2;");
        int[] bad = {-1, 2, Integer.MAX_VALUE, Integer.MIN_VALUE};
        for (int image : bad) {
            T.due("keep(" + image + ")", x.keep(image), DoorCases.BAD);
            T.due("back(" + image + ")", x.back(image), DoorCases.BAD);
        }
        T.due("back(0), none was kept", x.back(0), DoorCases.STATE);
        T.due("back(1), none was kept", x.back(1), DoorCases.STATE);
        T.due("keep(0)", x.keep(0), 0);
        T.due("back(1), still none", x.back(1), DoorCases.STATE);
        x.goes(0);
        x.does(0);
        x.asks(1);
        x.does(0);
        x.goes(1);
        x.does(1);
        String later = Due.look(x);
        T.due("keep(1)", x.keep(1), 16);
        T.due("keep() changes nothing", later.equals(Due.look(x)));
        T.due("back(0)", x.back(0), 0);
        T.due("in no room", x.now(1), DoorCases.NONE);
        T.due("solved", x.now(3), 0);
        T.due("asked", x.now(5), 0);
        T.due("feeling", x.room(0, 0), 3);
        T.due("done last", x.room(0, 4), DoorCases.NONE);
        T.due("nothing can be undone", x.now(7), 0);
        T.due("undo() behind back()", x.undo(), DoorCases.STATE);
        T.due("back(1)", x.back(1), 16);
        T.due("here", x.now(0), 1);
        T.due("solved then", x.now(3), 1);
        T.due("asked then", x.now(5), 2);
        T.due("feeling then", x.room(1, 0), 7);
        T.due("done last then", x.room(1, 4), 1);
        x.does(1);
        T.due("undo() of what came behind back()", x.undo(), 0);
        T.due("back(1) once more", x.back(1), 16);
        x.does(0);
        T.due("keep(1) anew", x.keep(1), 21);
        x.undo();
        T.due("back(1) has the newer one", x.back(1), 21);
    }

    private static void imagesKeepNowAlone() {
        DoorCases x = Due.told("r3 1 4;d3 5;");
        x.keep(0);
        x.felt(0, 3);
        x.rate(0, 0);
        x.type('r');
        x.goes(0);
        T.due("a refused back() loses nothing", x.back(1), DoorCases.STATE);
        T.due("what can be undone", x.now(7), 1);
        x.back(0);
        T.due("what was felt stays", x.count(6), 1);
        T.due("the trace stays", x.trace(), 1);
        T.due("the text stays", x.count(7), 1);
    }
}
