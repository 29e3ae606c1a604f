/** Promises 17 (next), 18 (questions). */
public final class WhomTest {
    private static final Due T = new Due("WhomTest");

    public static void main(String[] args) {
        nextQuestion();
        howMany();
        T.end();
    }

    private static void both(String suspects, int next, int questions) {
        DoorCases x = Due.told(suspects);
        T.due("next() of " + suspects, x.next(), next);
        T.due("questions() of " + suspects, x.questions(), questions);
    }

    private static void nextQuestion() {
        both("", DoorCases.NONE, 0);
        both("s7;", DoorCases.NONE, 0);
        both("s7;s7;", 0, 0);
        both("s16;s0;", 4, 1);
        both("s3;s1;s0;s2;", 0, 2);
        both("s12;s8;s0;s4;", 2, 2);
        both("s1;s0;s0;s2;s2;s2;", 1, 2);
        both("s31;s31;s31;s15;", 4, 1);
        DoorCases x = Due.told("r0 0 0;s3;s1;s0;s2;s3;");
        x.goes(0);
        T.due("next()", x.next(), 0);
        x.asks(0);
        T.due("next() behind asks(0)", x.next(), 1);
        x.asks(1);
        T.due("left", x.now(6), 17);
        T.due("next() of alike ones", x.next(), 2);
        T.due("questions() of alike ones", x.questions(), 0);
        x.asks(2);
        x.asks(4);
        T.due("next(), one is not asked", x.next(), 3);
        x.asks(3);
        T.due("next(), all were asked", x.next(), DoorCases.NONE);
        T.due("questions(), all were asked", x.questions(), 0);
        x.undo();
        T.due("next() behind undo()", x.next(), 3);
        DoorCases one = Due.told("r0 0 0;s3;s1;");
        one.goes(0);
        one.asks(1);
        T.due("next(), one is left", one.next(), DoorCases.NONE);
    }

    private static void howMany() {
        both("s1;s2;s4;s8;s16;", 0, 4);
        both("s1;s2;s4;s8;s16;s0;", 0, 5);
        both("s0;s1;s2;s3;s4;s5;", 0, 3);
        both("s0;s0;s1;s1;s1;s0;", 0, 1);
        both("s0;s1;s3;s7;s15;s31;", 2, 3);
        // Who begins with the best next question needs three here.
        both("s6;s20;s1;s1;s1;s0;", 0, 2);
        DoorCases x = Due.told("r0 0 0;s1;s2;s4;s8;s16;c4;");
        x.goes(0);
        x.asks(0);
        T.due("questions() behind one", x.questions(), 3);
        x.asks(4);
        T.due("questions() behind the right one", x.questions(), 0);
    }
}
