/** Promises 9 (goes), 10 (does), 11 (asks), 12 (undo). */
public final class DoneTest {
    private static final Due T = new Due("DoneTest");

    public static void main(String[] args) {
        going();
        doing();
        asking();
        minutesEnd();
        undoing();
        refusedIsNotUndone();
        T.end();
    }

    private static void going() {
        DoorCases x = Due.told("r0 1 1;r9 1 1;r9 1 1;r9 1 1;r9 1 1;d1 1;w7;");
        T.due("goes(-1)", x.goes(-1), DoorCases.BAD);
        T.due("goes(5)", x.goes(5), DoorCases.BAD);
        T.due("goes(3) from none", x.goes(3), 21);
        T.due("goes(3) where he is", x.goes(3), DoorCases.STATE);
        T.due("goes(1)", x.goes(1), 14);
        T.due("goes(0)", x.goes(0), 7);
        x.does(0);
        T.due("goes(0), which is solved", x.goes(0), DoorCases.STATE);
        T.due("goes(4) from where he was last", x.goes(4), 28);
        T.due("minutes", x.now(2), 71);
        T.due("goes(2)", x.goes(2), 14);
        DoorCases near = Due.told("r0 1 1;w9;");
        T.due("goes(0) from none", near.goes(0), 0);
    }

    private static void doing() {
        DoorCases x = Due.told("r30 3 9;r3 1 4;r5 0 1;d3 5;d1 2;d0 1;");
        T.due("does(0) in no room", x.does(0), DoorCases.STATE);
        T.due("does(3) in no room", x.does(3), DoorCases.BAD);
        T.due("does(-1)", x.does(-1), DoorCases.BAD);
        x.goes(0);
        does(x, 0, 0, 21);
        does(x, 0, 0, 17);
        does(x, 0, 0, 13);
        does(x, 1, 0, 10);
        does(x, 1, 0, 9);
        does(x, 2, 0, 9);
        does(x, 1, 0, 6);
        x.goes(1);
        T.due("does(1) elsewhere is not the last one there", x.does(1), 0);
        T.due("feeling there", x.room(1, 0), 2);
        x.goes(0);
        does(x, 1, 0, 5);
        T.due("he is still in", x.now(0), 0);
        does(x, 0, 1, -4);
        T.due("in no room", x.now(0), DoorCases.NONE);
        T.due("was last", x.now(1), 0);
        T.due("solved", x.now(3), 1);
        T.due("earned", x.now(4), 9);
        x.goes(1);
        T.due("half of 1 is cut to 0", x.does(1), 0);
        T.due("feeling stays", x.room(1, 0), 2);
        x.does(0);
        T.due("sent out of both", x.now(3), 3);
        x.goes(2);
        T.due("temper 0 takes nothing", x.does(0), 0);
        T.due("feeling stays", x.room(2, 0), 5);
        DoorCases even = Due.told("r3 1 4;d3 5;");
        even.goes(0);
        T.due("down to just 0", even.does(0), 0);
        T.due("still in", even.now(0), 0);
        T.due("half of 3 is 1", even.does(0), 1);
        T.due("feeling", even.room(0, 0), -1);
        T.due("minutes", even.now(2), 10);
    }

    private static void does(DoorCases x, int d, int want, int feeling) {
        T.due("does(" + d + ")", x.does(d), want);
        T.due("feeling behind does(" + d + ")", x.room(0, 0), feeling);
        T.due("last one behind does(" + d + ")", x.room(0, 4), d);
    }

    private static void asking() {
        DoorCases x = Due.told("r4 1 9;d2 5;s21;s10;s20;");
        T.due("asks(0) in no room", x.asks(0), DoorCases.STATE);
        T.due("asks(5) in no room", x.asks(5), DoorCases.BAD);
        T.due("asks(-1)", x.asks(-1), DoorCases.BAD);
        x.goes(0);
        x.does(0);
        T.due("asks(0)", x.asks(0), 1);
        T.due("left", x.now(6), 1);
        T.due("asks(0) again", x.asks(0), DoorCases.STATE);
        T.due("asks(3)", x.asks(3), 0);
        T.due("asks(4)", x.asks(4), 1);
        T.due("minutes", x.now(2), 11);
        T.due("asked", x.now(5), 25);
        T.due("a question is no doing", x.room(0, 4), 0);
        T.due("half, in spite of the questions", x.does(0), 0);
        T.due("feeling", x.room(0, 0), 1);
        DoorCases nobody = Due.told("r4 1 9;");
        nobody.goes(0);
        T.due("asks(0) about nobody", nobody.asks(0), DoorCases.STATE);
        T.due("asks(5) about nobody", nobody.asks(5), DoorCases.BAD);
    }

    private static void minutesEnd() {
        DoorCases x = Due.told("r0 0 0;r0 0 0;d0 30;d0 9;d0 1;s0;w9;");
        x.goes(0);
        for (int i = 0; i < 332; i++) {
            x.does(0);
        }
        T.due("minutes", x.now(2), 9960);
        T.due("does(0) to 9990", x.does(0), 0);
        T.due("does(0) above", x.does(0), DoorCases.STATE);
        T.due("nothing changed", x.now(2), 9990);
        T.due("goes(1) to just 9999", x.goes(1), 9);
        T.due("goes(0) above", x.goes(0), DoorCases.STATE);
        T.due("does(2) above", x.does(2), DoorCases.STATE);
        T.due("asks(0) above", x.asks(0), DoorCases.STATE);
        T.due("undo()", x.undo(), 9);
        T.due("does(1) to just 9999", x.does(1), 0);
        x.undo();
        for (int i = 0; i < 8; i++) {
            x.does(2);
        }
        T.due("asks(0) would be 10000", x.asks(0), DoorCases.STATE);
        x.undo();
        T.due("asks(0) to just 9999", x.asks(0), 0);
        T.due("minutes", x.now(2), 9999);
    }

    private static void undoing() {
        DoorCases x = Due.told("r3 1 4;r9 2 7;d3 5;d1 2;s1;s2;w2;");
        T.due("undo() of nothing", x.undo(), DoorCases.STATE);
        String[] moments = new String[14];
        for (int i = 0; i < 13; i++) {
            moments[i] = momentOf(x);
            step(x, i);
        }
        T.due("ten are known", x.now(7), 10);
        for (int i = 12; i >= 3; i--) {
            T.due("undo() of the " + i + "-th", x.undo(), i - 3);
            T.due("as it was ahead of the " + i + "-th", moments[i].equals(momentOf(x)));
        }
        T.due("older ones are lost", x.undo(), DoorCases.STATE);
        T.due("as it was ahead of the third", moments[3].equals(momentOf(x)));
    }

    private static void step(DoorCases x, int i) {
        int got;
        switch (i) {
            case 0: got = x.goes(0); break;
            case 1: got = x.does(0); break;
            case 2: got = x.asks(0); break;
            case 3: got = x.does(0); break;
            case 4: got = x.goes(1); break;
            case 5: got = x.asks(3); break;
            default: got = x.does(1); break;
        }
        T.due("step " + i + " is not refused", got >= 0);
    }

    private static String momentOf(DoorCases x) {
        StringBuilder all = new StringBuilder();
        for (int what = 0; what < 7; what++) {
            all.append(x.now(what)).append(' ');
        }
        for (int r = 0; r < 2; r++) {
            all.append(x.room(r, 0)).append(' ').append(x.room(r, 3)).append(' ').append(x.room(r, 4)).append(' ');
        }
        return all.toString();
    }

    private static void refusedIsNotUndone() {
        DoorCases x = Due.told("r3 1 4;d3 5;s1;");
        x.does(0);
        x.goes(1);
        x.asks(0);
        T.due("refused calls are not known", x.now(7), 0);
        x.goes(0);
        x.goes(0);
        x.does(1);
        x.asks(9);
        x.felt(0, 3);
        x.keep(0);
        T.due("just one is known", x.now(7), 1);
        T.due("undo()", x.undo(), 0);
        T.due("in no room again", x.now(1), DoorCases.NONE);
        T.due("what was felt stays", x.count(6), 1);
        T.due("undo() again", x.undo(), DoorCases.STATE);
    }
}
