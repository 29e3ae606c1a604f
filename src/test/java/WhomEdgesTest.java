import java.io.IOException;

/** The edges of promises 17 (next), 18 (questions). */
public final class WhomEdgesTest {
    private static Edges e;

    public static void main(String[] args) throws IOException {
        e = new Edges("WhomEdgesTest", args);
        smallestGreaterPart();
        lowestOfSeveral();
        oneLeftAtMost();
        allWereAsked();
        notAskedYet();
        howMany();
        likeTraits();
        asWellAsCanBe();
        ofThoseLeft();
        nothingIsChanged();
        e.end();
    }

    private static void next(String suspects, int want) {
        e.due("next() of " + suspects, Due.told(suspects).next(), want);
    }

    private static void questions(String suspects, int want) {
        e.due("questions() of " + suspects, Due.told(suspects).questions(), want);
    }

    private static DoorCases asked(String suspects, int... traits) {
        return Edges.moment("r0 0 0;" + suspects, x -> {
            x.goes(0);
            for (int trait : traits) {
                x.asks(trait);
            }
        });
    }

    private static void smallestGreaterPart() {
        e.sentence("NEXT: the TRAIT not asked by which the greater part of LEFT, by either answer, is smallest");
        next("s0;s16;", 4);
        next("s0;s1;s2;s2;", 1);
        next("s1;s3;s7;s7;", 2);
        next("s1;s3;s3;s7;", 1);
        next("s1;s1;s1;s3;s3;s2;", 1);
        // Few who have it are as good as few who have it not.
        next("s30;s31;s31;s29;s23;s31;", 0);
        next("s31;s31;s31;s15;", 4);
        next("s1;s1;s1;s1;s0;s0;", 0);
        next("s5;s5;s5;s1;s0;s0;", 2);
    }

    private static void lowestOfSeveral() {
        e.sentence("is smallest, of several the lowest;");
        next("s0;s31;", 0);
        next("s0;s30;", 1);
        next("s0;s24;", 3);
        next("s7;s7;", 0);
        next("s1;s2;s4;s8;s16;", 0);
        next("s0;s1;s3;s7;s15;s31;", 2);
        e.due("next() of alike ones, 0 asked", asked("s7;s7;", 0).next(), 1);
        e.due("next() of alike ones, 0 and 1 asked", asked("s7;s7;", 0, 1).next(), 2);
        e.due("next() of alike ones, 1 asked", asked("s7;s7;", 1).next(), 0);
    }

    private static void oneLeftAtMost() {
        e.sentence("NONE (one is LEFT at most, all were asked).");
        e.due("next() of nobody", new DoorCases().next(), Edges.NONE);
        next("", Edges.NONE);
        next("s0;", Edges.NONE);
        next("s31;", Edges.NONE);
        next("s31;s31;", 0);
        e.due("next(), one is left of two", asked("s1;s0;", 0).next(), Edges.NONE);
        e.due("next(), two are left of three", asked("s1;s0;s1;", 0).next(), 1);
        e.due("next(), the last of six is left", asked("s0;s0;s0;s0;s0;s16;c5;", 4).next(), Edges.NONE);
    }

    private static void allWereAsked() {
        e.sentence("NEXT; NONE.");
        e.due("next(), four asked", asked("s9;s9;", 0, 1, 2, 3).next(), 4);
        e.due("next(), four others asked", asked("s9;s9;", 4, 3, 2, 1).next(), 0);
        e.due("next(), all asked", asked("s9;s9;", 0, 1, 2, 3, 4).next(), Edges.NONE);
        e.due("next(), all asked, six left", asked("s9;s9;s9;s9;s9;s9;", 0, 1, 2, 3, 4).next(), Edges.NONE);
        DoorCases x = asked("s9;s9;", 0, 1, 2, 3, 4);
        x.undo();
        e.due("next(), the last one undone", x.next(), 4);
    }

    private static void notAskedYet() {
        e.sentence("the TRAIT not asked");
        DoorCases x = asked("s3;s1;s0;s2;s3;");
        e.due("next()", x.next(), 0);
        x.asks(0);
        e.due("next() behind 0", x.next(), 1);
        x.asks(1);
        e.due("next() behind 1", x.next(), 2);
        e.due("left", x.now(6), 17);
    }

    private static void howMany() {
        e.sentence("`int questions()`: QUESTIONS.");
        e.due("questions() of nobody", new DoorCases().questions(), 0);
        questions("", 0);
        questions("s0;", 0);
        questions("s31;", 0);
        questions("s0;s1;", 1);
        questions("s0;s16;", 1);
        questions("s0;s1;s2;", 2);
        questions("s0;s1;s2;s3;", 2);
        questions("s0;s1;s2;s3;s4;", 3);
        questions("s0;s1;s2;s3;s4;s5;", 3);
        questions("s1;s2;s4;s8;s16;", 4);
        questions("s1;s2;s4;s8;s16;s0;", 5);
        questions("s1;s2;s4;s8;s16;s31;", 4);
    }

    private static void likeTraits() {
        e.sentence("QUESTIONS: how many it takes at worst till just SUSPECTS of like TRAITS are LEFT");
        questions("s7;s7;", 0);
        questions("s7;s7;s7;s7;s7;s7;", 0);
        questions("s7;s7;s7;s7;s7;s6;", 1);
        questions("s7;s7;s7;s6;s6;s6;", 1);
        questions("s7;s7;s6;s6;s5;s5;", 2);
    }

    private static void asWellAsCanBe() {
        e.sentence("are LEFT, asked as well as can be.");
        // Who begins with the best next question needs three here.
        questions("s6;s20;s1;s1;s1;s0;", 2);
        questions("s0;s1;s3;s7;s15;s31;", 3);
        questions("s0;s1;s2;s4;s24;s31;", 4);
    }

    private static void ofThoseLeft() {
        e.sentence("how many it takes at worst till just SUSPECTS of like TRAITS are LEFT");
        e.due("questions(), four left", asked("s1;s2;s4;s8;s16;c4;", 0).questions(), 3);
        e.due("questions(), three left", asked("s1;s2;s4;s8;s16;c4;", 0, 1).questions(), 2);
        e.due("questions(), two left", asked("s1;s2;s4;s8;s16;c4;", 0, 1, 2).questions(), 1);
        e.due("questions(), one left", asked("s1;s2;s4;s8;s16;c4;", 4).questions(), 0);
        e.due("questions(), all asked", asked("s1;s2;s4;s8;s16;c4;", 0, 1, 2, 3, 4).questions(), 0);
        e.due("questions(), one in vain", asked("s1;s2;s4;s8;c3;", 4).questions(), 3);
        e.due("questions(), the last of six", asked("s1;s2;s4;s8;s16;s0;c5;", 0).questions(), 4);
        DoorCases x = asked("s1;s2;s4;s8;s16;c4;", 0);
        x.undo();
        e.due("questions() behind undo()", x.questions(), 4);
    }

    private static void nothingIsChanged() {
        e.sentence("(As things are NOW; nothing is changed.)");
        String text = "r0 0 0;s1;s2;s4;s8;s16;c4;";
        e.unchanged("next()", text, x -> x.goes(0), DoorCases::next, 0);
        e.unchanged("questions()", text, x -> x.goes(0), DoorCases::questions, 4);
    }
}
