import java.io.IOException;

/** The edges that the document names of the text and how it is read: promises 2 (type), 3 (clear), 4 (house). */
public final class TextEdgesTest {
    private static Edges e;
    private static final String FIVE_ROOMS = "r0 0 0;".repeat(5);
    private static final String FIVE_DOINGS = "d0 1;".repeat(5);
    private static final String SIX_SUSPECTS = "s0;".repeat(6);

    public static void main(String[] args) throws IOException {
        e = new Edges("TextEdgesTest", args);
        mostOfEach();
        roomNumbers();
        doingNumbers();
        suspectNumbers();
        culprit();
        walk();
        night();
        letters();
        lettersRefused();
        cleared();
        blanks();
        itemsEnded();
        onceEach();
        toldAhead();
        everyLetterAlone();
        everyLetterElsewhere();
        firstTokenAtFault();
        numbersBeyond();
        numbersWrittenWrong();
        endsTooEarly();
        howManyItems();
        emptyThen();
        faultChangesNothing();
        readAnew();
        readAnewInARoom();
        readAgainAndAgain();
        e.end();
    }

    private static void items(String text, int want) {
        e.due("house() of '" + text + "'", Due.tell(new DoorCases(), text), want);
    }

    private static void fault(String text, int place) {
        e.due("house() of '" + text + "'", Due.tell(new DoorCases(), text), -10 - place);
    }

    private static void tells(String text, int want, int got) {
        e.due("what '" + text + "' tells", got, want);
    }

    private static void mostOfEach() {
        e.sentence("(5 at most): FEELING");
        items(FIVE_ROOMS, 5);
        tells(FIVE_ROOMS, 5, Due.told(FIVE_ROOMS).count(0));
        fault(FIVE_ROOMS + "r0 0 0;", 35);
        e.sentence("DOINGS 0 .. (5 at most)");
        items(FIVE_DOINGS, 5);
        tells(FIVE_DOINGS, 5, Due.told(FIVE_DOINGS).count(1));
        fault(FIVE_DOINGS + "d0 1;", 25);
        e.sentence("SUSPECTS 0 .. (6 at most)");
        items(SIX_SUSPECTS, 6);
        tells(SIX_SUSPECTS, 6, Due.told(SIX_SUSPECTS).count(2));
        fault(SIX_SUSPECTS + "s0;", 18);
        e.sentence("(a sixth r or d, a seventh s, c, w, n again");
        fault(FIVE_ROOMS + "r", 35);
        fault(FIVE_ROOMS + "  r99", 37);
        fault(FIVE_DOINGS + "d", 25);
        fault(FIVE_DOINGS + " d99", 26);
        fault(SIX_SUSPECTS + "s", 18);
        fault(SIX_SUSPECTS + " s99", 19);
        fault("w5;r0 0 0;d0 1;" + SIX_SUSPECTS + "c5;s", 36);
        items(FIVE_ROOMS + FIVE_DOINGS + SIX_SUSPECTS, 16);
    }

    private static void roomNumbers() {
        e.sentence("FEELING (0 .. 30)");
        tells("r0", 0, Due.told("r0 1 1;").room(0, 0));
        tells("r30", 30, Due.told("r30 1 1;").room(0, 0));
        fault("r31 1 1;", 1);
        e.sentence("TEMPER (0 .. 3)");
        tells("r1 0", 0, Due.told("r1 0 1;").room(0, 1));
        tells("r1 3", 3, Due.told("r1 3 1;").room(0, 1));
        fault("r1 4 1;", 3);
        e.sentence("WORTH of its case (0 .. 99)");
        tells("r1 1 0", 0, Due.told("r1 1 0;").room(0, 2));
        tells("r1 1 99", 99, Due.told("r1 1 99;").room(0, 2));
        fault("r1 1 100;", 5);
    }

    private static void doingNumbers() {
        e.sentence("RUDE (0 .. 9)");
        tells("d0", 0, Due.told("d0 1;").doing(0, 0));
        tells("d9", 9, Due.told("d9 1;").doing(0, 0));
        fault("d10 1;", 1);
        e.sentence("MINUTES (1 .. 30)");
        tells("d0 1", 1, Due.told("d0 1;").doing(0, 1));
        tells("d0 30", 30, Due.told("d0 30;").doing(0, 1));
        fault("d0 0;", 3);
        fault("d0 31;", 3);
    }

    private static void suspectNumbers() {
        e.sentence("TRAITS (0 .. 4 as bits)");
        tells("s0", 0, Due.told("s0;").suspect(0));
        tells("s31", 31, Due.told("s31;").suspect(0));
        fault("s32;", 1);
    }

    private static void culprit() {
        e.sentence("CULPRIT (a SUSPECT; 0 at first)");
        tells("nobody", 0, new DoorCases().count(3));
        tells("no c", 0, Due.told("s1;s2;").count(3));
        tells("c0", 0, Due.told("s1;s2;c0;").count(3));
        tells("c1 of two", 1, Due.told("s1;s2;c1;").count(3));
        fault("s1;s2;c2;", 7);
        tells("c5 of six", 5, Due.told(SIX_SUSPECTS + "c5;").count(3));
        fault(SIX_SUSPECTS + "c6;", 19);
        e.sentence("a SUSPECT that there is not");
        fault("c0;", 1);
        fault("r0 0 0;d0 1;c0;", 13);
        fault("s1;c 1;", 5);
    }

    private static void walk() {
        e.sentence("WALK (0 .. 9 minutes from a ROOM to the next number; 1 at first)");
        tells("no text", 1, new DoorCases().count(4));
        tells("no w", 1, Due.told("r0 0 0;").count(4));
        tells("w0", 0, Due.told("w0;").count(4));
        tells("w9", 9, Due.told("w9;").count(4));
        fault("w10;", 1);
    }

    private static void night() {
        e.sentence("NIGHT (1 .. 500 minutes; 120 at first)");
        tells("no text", 120, new DoorCases().count(5));
        tells("no n", 120, Due.told("r0 0 0;").count(5));
        tells("n1", 1, Due.told("n1;").count(5));
        tells("n500", 500, Due.told("n500;").count(5));
        fault("n0;", 1);
        fault("n501;", 1);
    }

    private static void letters() {
        e.sentence("A letter (0 .. 255) comes to THE TEXT: how many it has.");
        DoorCases x = new DoorCases();
        e.due("type(0)", x.type(0), 1);
        e.due("type(255)", x.type(255), 2);
        e.due("count(7)", x.count(7), 2);
        DoorCases all = new DoorCases();
        for (int letter = 0; letter < 200; letter++) {
            e.due("type(" + letter + ")", all.type(letter), letter + 1);
        }
        all.clear();
        for (int letter = 200; letter < 256; letter++) {
            e.due("type(" + letter + ")", all.type(letter), letter - 199);
        }
        e.sentence("They are a text (200 letters at most)");
        DoorCases full = new DoorCases();
        Due.type(full, " ".repeat(199));
        e.due("type, the 200th", full.type(' '), 200);
        e.due("type, the 201st", full.type(' '), Edges.FULL);
        e.due("count(7)", full.count(7), 200);
        e.due("house() of 200 blanks", full.house(), 0);
        e.due("type behind house()", full.type(' '), 1);
        items(" ".repeat(193) + "r1 1 1;", 1);
        items("r1 1 1;" + " ".repeat(193), 1);
        fault(" ".repeat(199) + "x", 199);
    }

    private static void lettersRefused() {
        e.sentence("`int type(int letter)`: A letter (0 .. 255) comes to THE TEXT: how many it has. BAD; FULL.");
        for (int letter : new int[] {-1, 256, 32 + 256, Edges.LEAST, Edges.GREATEST}) {
            e.unchanged("type(" + letter + ")", "s1;", x -> x.type('w'), x -> x.type(letter), Edges.BAD);
            e.unchanged("type(" + letter + ") when full", "", x -> Due.type(x, "w5;" + " ".repeat(197)),
                x -> x.type(letter), Edges.BAD);
        }
        e.unchanged("type(0) when full", "", x -> Due.type(x, "w5;" + " ".repeat(197)), x -> x.type(0), Edges.FULL);
        e.unchanged("type(255) when full", "", x -> Due.type(x, "w5;" + " ".repeat(197)), x -> x.type(255), Edges.FULL);
    }

    private static void cleared() {
        e.sentence("THE TEXT is empty: how many letters it had.");
        DoorCases x = Due.told("r9 1 5;w5;");
        e.due("clear() of nothing", x.clear(), 0);
        x.type('w');
        e.due("clear() of one", x.clear(), 1);
        e.due("clear() again", x.clear(), 0);
        Due.type(x, " ".repeat(200));
        e.due("clear() of 200", x.clear(), 200);
        e.due("type behind clear()", x.type('s'), 1);
        x.type('3');
        x.type(';');
        e.due("what is told stays", x.count(4), 5);
        e.due("house() reads the new text alone", x.house(), 1);
        e.unchanged("clear() of nothing", "r9 1 5;d4 6;", y -> y.goes(0), DoorCases::clear, 0);
    }

    private static void blanks() {
        e.sentence("told letter by letter, blanks (32) between TOKENS");
        items("r1 2 3;d4 5;s6;c0;w7;n8;", 6);
        items("   r   1   2   3   ;   d   4   5   ;   s   6   ;   c   0   ;   w   7   ;   n   8   ;   ", 6);
        items("r 1 2 3 ;", 1);
        items(" ", 0);
        fault("r12 3;", 5);
        fault("r1 23;", 3);
        fault("n 5 0;", 4);
        for (int letter : new int[] {0, 9, 10, 11, 12, 13, 31, 33, 95, 160, 255}) {
            fault("w5;" + (char) letter + "n8;", 3);
            fault("w" + (char) letter + "5;", 1);
            fault("w5" + (char) letter + ";", 2);
        }
    }

    private static void itemsEnded() {
        e.sentence("ITEMS, each ended by ;");
        fault("w5 n8;", 3);
        fault("w5n8;", 2);
        fault("w5;n8", 5);
        fault("w5;;", 3);
        fault(";", 0);
        fault("r1 1 1 1;", 7);
        fault("d1 1 1;", 5);
        fault("s1 1;", 3);
        fault("w1 1;", 3);
        fault("n1 1;", 3);
        fault("s1;c0 0;", 6);
        fault("r1 1;", 4);
        fault("r1;", 2);
        fault("r;", 1);
        fault("d1;", 2);
        fault("d;", 1);
        fault("s;", 1);
        fault("c;", 1);
        fault("w;", 1);
        fault("n;", 1);
    }

    private static void onceEach() {
        e.sentence("w N (WALK), n N (NIGHT; once at most each)");
        items("s1;c0;w5;n8;", 4);
        fault("s1;c0;c0;", 6);
        fault("w5;w5;", 3);
        fault("n8;n8;", 3);
        fault("s1;c0;w5;n8; c", 13);
        fault("s1;c0;w5;n8; w", 13);
        fault("s1;c0;w5;n8; n", 13);
        DoorCases x = Due.told("s1;c0;w5;n8;");
        e.due("each once more in a new text", Due.tell(x, "s1;c0;w5;n8;"), 4);
        Due.tell(x, "w5;w5;");
        e.due("each once more behind a fault", Due.tell(x, "s1;c0;w5;n8;"), 4);
    }

    private static void toldAhead() {
        e.sentence("c K (CULPRIT, told ahead)");
        fault("c0;s1;", 1);
        fault("s1;c1;s2;", 4);
        items("s1;c0;s2;", 3);
        items("s1;s2;c1;s3;", 4);
    }

    private static void everyLetterAlone() {
        e.sentence("TOKENS are the letters r, d, s, c, w, n, NUMBERS and ; .");
        for (int letter = 0; letter < 256; letter++) {
            String text = "" + (char) letter;
            if (letter == ' ') {
                items(text, 0);
            } else {
                fault(text, "rdscwn".indexOf(letter) >= 0 ? 1 : 0);
            }
        }
    }

    private static void everyLetterElsewhere() {
        e.sentence("of any other letter, a NUMBER above 500 or with a 0 ahead of others, that TOKEN's;");
        for (int letter = 0; letter < 256; letter++) {
            boolean digit = letter >= '0' && letter <= '9';
            char put = (char) letter;
            if (letter == ' ') {
                items("w5;" + put + "n8 ;", 2);
                items("w" + put + "5;", 1);
                items("w5" + put + ";", 1);
            } else {
                if ("rdscn".indexOf(letter) < 0) {
                    fault("w5;" + put, 3);
                }
                if (!digit) {
                    fault("w " + put + ";", 2);
                }
                if (letter != ';') {
                    fault("w5 " + put, 3);
                }
            }
        }
    }

    private static void firstTokenAtFault() {
        e.sentence("FAULT: the place of the first letter of the first TOKEN that can't stand there");
        fault("w;w5;w5;", 1);
        fault("w10;x", 1);
        fault("x w10;", 0);
        fault("w5;   501", 6);
        fault("  31", 2);
        fault("r1 1 1;d1 99;s99;", 10);
        fault("n 0012;n 501;", 2);
        fault("w5;w5;x", 3);
        fault("r;x", 1);
        fault("r1 1 1;  r 31 1 1;", 11);
        fault("r r1 1 1;", 2);
        fault("d5 w", 3);
    }

    private static void numbersBeyond() {
        e.sentence("a NUMBER beyond what it may be, too);");
        fault("r 31 4 100;", 2);
        fault("r 30 4 100;", 5);
        fault("r 30 3 100;", 7);
        fault("d 10 0;", 2);
        fault("d 9 0;", 4);
        fault("d 9 31;", 4);
        fault("s 32;", 2);
        fault("s 1;c 1;", 6);
        fault("w 10;", 2);
        fault("n 0;", 2);
        fault("n 501;", 2);
    }

    private static void numbersWrittenWrong() {
        e.sentence("a NUMBER above 500 or with a 0 ahead of others");
        items("n500;", 1);
        items("n499;", 1);
        fault("n501;", 1);
        fault("n1000;", 1);
        fault("n65636;", 1);
        fault("n4294967297;", 1);
        fault("n4294967416;", 1);
        fault("n18446744073709551617;", 1);
        fault("w4294967296;", 1);
        fault("n" + "1".repeat(199), 1);
        items("w0;", 1);
        fault("w00;", 1);
        fault("w01;", 1);
        fault("w 05;", 2);
        fault("n0500;", 1);
        fault("n 0001;", 2);
        fault("r00 0 0;", 1);
        fault("r0 00 0;", 3);
        fault("r0 0 00;", 5);
        fault("d00 1;", 1);
        fault("d0 01;", 3);
        fault("s00;", 1);
        fault("s0;c00;", 4);
        items("w 5;n 10;", 2);
        items("n100;", 1);
    }

    private static void endsTooEarly() {
        e.sentence("the text's length, if it ends too early.");
        String text = "  r30 3 99 ; d9 30;s31 ; c0;w9;n500;";
        int items = 0;
        for (int length = 0; length <= text.length(); length++) {
            String part = text.substring(0, length);
            if (part.endsWith(";")) {
                items++;
            }
            if (part.trim().isEmpty() || part.trim().endsWith(";")) {
                items(part, items);
            } else {
                fault(part, length);
                fault(part + " ", length + 1);
            }
        }
        fault("r1 1 1;" + " ".repeat(192) + "w", 200);
        fault("w1" + " ".repeat(198), 200);
        fault("w" + " ".repeat(199), 200);
    }

    private static void howManyItems() {
        e.sentence("`int house()`: THE TEXT tells all anew, and is empty then: how many ITEMS.");
        items("", 0);
        items("w0;", 1);
        items(FIVE_ROOMS + FIVE_DOINGS + SIX_SUSPECTS + "c5;w9;n500;", 19);
        items("n500;w9;s0;c0;" + "s0;".repeat(5) + FIVE_DOINGS + FIVE_ROOMS, 19);
    }

    private static void emptyThen() {
        e.sentence("THE TEXT tells all anew, and is empty then");
        DoorCases x = Due.told("r5 2 8;d4 6;s7;s9;c1;w3;n77;");
        e.due("count(7)", x.count(7), 0);
        e.due("clear()", x.clear(), 0);
        e.due("house() of nothing", x.house(), 0);
        int[] first = {0, 0, 0, 0, 1, 120, 0, 0};
        for (int what = 0; what < 8; what++) {
            e.due("count(" + what + ")", x.count(what), first[what]);
        }
        e.due("room(0, 0)", x.room(0, 0), Edges.NO);
        e.due("doing(0, 0)", x.doing(0, 0), Edges.BAD);
        e.due("suspect(0)", x.suspect(0), Edges.BAD);
        e.due("now(6)", x.now(6), 0);
        e.due("loved()", x.loved(), 0);
    }

    private static void live(DoorCases x) {
        x.goes(1);
        x.asks(1);
        x.keep(0);
        x.does(0);
        x.goes(0);
        x.does(0);
        x.keep(1);
        x.felt(0, 4);
        x.rate(3, 0);
        x.does(0);
    }

    private static void faultChangesNothing() {
        e.sentence("-10 less FAULT: nothing changes.");
        String text = "r9 2 5;r3 1 7;d4 6;s3;s1;c1;w2;n50;";
        String[] wrong = {"x", "r1 1 1;d9 9;s9;c0;w5;n7;q", "r1 1 1", "w5;w5;", "n501;", "r31 1 1;", "c0;", "r1 1 1;r"};
        int[] places = {0, 24, 6, 3, 1, 1, 1, 8};
        for (int i = 0; i < wrong.length; i++) {
            String told = wrong[i];
            e.unchanged("house() of '" + told + "'", text, x -> {
                live(x);
                Due.type(x, told);
            }, DoorCases::house, -10 - places[i]);
        }
        DoorCases x = Due.told("w5;");
        Due.type(x, "n7;q");
        e.due("house() with a fault", x.house(), -13);
        e.due("the text stays", x.count(7), 4);
        e.due("house() with the same fault", x.house(), -13);
        e.due("more comes to the text that stayed", x.type('q'), 5);
    }

    private static void readAnew() {
        e.sentence("(Read anew: as told, nothing SOLVED, asked, FELT, IMAGES are gone.)");
        String text = "r9 2 5;r3 1 7;d4 6;s3;s1;c1;w2;n50;";
        DoorCases x = Edges.moment(text, TextEdgesTest::live);
        long trace = x.trace();
        e.due("the same text", Due.tell(x, text), 8);
        int[] nows = {Edges.NONE, Edges.NONE, 0, 0, 0, 0, 3, 0};
        for (int what = 0; what < 8; what++) {
            e.due("now(" + what + ")", x.now(what), nows[what]);
        }
        for (int r = 0; r < 2; r++) {
            e.due("feeling of " + r, x.room(r, 0), r == 0 ? 9 : 3);
            e.due("solved of " + r, x.room(r, 3), 0);
            e.due("done last in " + r, x.room(r, 4), Edges.NONE);
        }
        e.due("felt", x.count(6), 0);
        e.due("tempers()", x.tempers(), 15);
        e.due("forget()", x.forget(), 0);
        e.due("undo()", x.undo(), Edges.STATE);
        e.due("back(0)", x.back(0), Edges.STATE);
        e.due("back(1)", x.back(1), Edges.STATE);
        e.due("goes(1) from none", x.goes(1), 2);
        e.due("trace(), which is not among it", x.trace(), trace);
    }

    private static void readAnewInARoom() {
        e.sentence("(Read anew: as told, nothing SOLVED, asked, FELT, IMAGES are gone.)");
        String text = "r9 2 5;r3 1 7;d4 6;s3;s1;c1;w2;n50;";
        DoorCases x = Edges.moment(text, y -> y.goes(1));
        Due.tell(x, text);
        e.due("now(0)", x.now(0), Edges.NONE);
        e.due("now(1)", x.now(1), Edges.NONE);
        e.due("does(0) in no room", x.does(0), Edges.STATE);
        e.due("asks(0) in no room", x.asks(0), Edges.STATE);
        e.due("goes(1) where he is no more", x.goes(1), 2);
        Due.tell(x, "");
        e.due("now(0) without rooms", x.now(0), Edges.NONE);
        e.due("now(1) without rooms", x.now(1), Edges.NONE);
    }

    /** Nothing of a text before the last one is left, however many there were, with faults among them. */
    private static void readAgainAndAgain() {
        e.sentence("THE TEXT tells all anew");
        DoorCases x = new DoorCases();
        String[] texts = {"r1 1 1;r2 2 2;d3 4;d5 6;s7;s8;c1;w3;n77;", "s1;s2;s3;", "d1 1;", "r5 1 1;s9;", "w2;n5;"};
        int[][] counts = {{2, 2, 2, 1, 3, 77}, {0, 0, 3, 0, 1, 120}, {0, 1, 0, 0, 1, 120}, {1, 0, 1, 0, 1, 120}, {0, 0, 0, 0, 2, 5}};
        for (int i = 0; i < 8; i++) {
            int k = i * 3 % 5;
            Due.tell(x, texts[k]);
            Due.tell(x, "r9 3 9;d9 9;s9;s8;c1;w9;n9;q");
            for (int what = 0; what < 6; what++) {
                e.due("count(" + what + ") behind '" + texts[k] + "'", x.count(what), counts[k][what]);
            }
        }
    }
}
