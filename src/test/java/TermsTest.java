import java.io.IOException;
import java.lang.reflect.Method;
import java.lang.reflect.Modifier;
import java.nio.file.Files;
import java.nio.file.Path;
import java.util.Arrays;
import java.util.Set;
import java.util.TreeSet;
import java.util.regex.Matcher;
import java.util.regex.Pattern;

/** The document from its first line to its first promise, word by word, with answers worked out by hand. */
public final class TermsTest {
    /** Sent out: of room 0 by doing 1 in 11 minutes, of room 1 by doing 0 three times in 15, of room 2 never. */
    private static final String HOUSE = "r12 2 30;r7 1 50;r5 0 90;d4 5;d7 11;s5;s9;s20;c1;w3;n60;";
    private static Passages p;

    public static void main(String[] args) throws IOException {
        p = new Passages("TermsTest", args, "# DoorCases", "## Promise 1: A new object");
        whatItIs();
        used();
        face(Passages.wholeDocument(args));
        rooms();
        doingsAndSuspects();
        culpritWalkNight();
        text();
        items();
        fault();
        atFirst();
        gone();
        done();
        sentOut();
        asked();
        undone();
        asThingsAre();
        soonest();
        loved();
        round();
        next();
        questions();
        country();
        felt();
        odds();
        kinds();
        images();
        refused();
        order(args);
        p.end();
    }

    // ---- What it is

    private static void whatItIs() {
        p.reads("Case closed by the door: a detective who solves a case as soon as he is sent out of the room,");
        DoorCases x = Due.told(HOUSE);
        x.goes(0);
        p.due("nothing solved yet", x.now(3), 0);
        p.due("sent out", x.does(1), 1);
        p.due("solved by it", x.now(3), 1);
        p.reads("rooms by how they feel of him and how much it takes, doings that cost minutes and feelings, "
            + "suspects by traits, told by a text;");
        p.due("room 1", new int[] {x.room(1, 0), x.room(1, 1), x.room(1, 2)}, 7, 1, 50);
        p.due("doing 1", new int[] {x.doing(1, 0), x.doing(1, 1)}, 7, 11);
        p.due("suspects", new int[] {x.suspect(0), x.suspect(1), x.suspect(2)}, 5, 9, 20);
        p.reads("rooms gone to, doings done, questions asked, doors by which he is sent out, all of it undone;");
        DoorCases y = Due.told(HOUSE);
        String before = Due.look(y);
        int[] answers = {y.goes(0), y.does(0), y.asks(0), y.does(1), y.undo(), y.undo(), y.undo(), y.undo()};
        p.due("done and undone", answers, 0, 0, 1, 1, 3, 2, 1, 0);
        p.due("all as before", Due.look(y).equals(before));
        p.reads("how he is sent out soonest, which house loves him, which rooms in which order in a night;");
        p.due("ways out", new int[] {y.soonest(0, -1), y.loved(), y.round(0), y.round(1)}, 11, 4, 0, 1);
        p.reads("whom it can have been, the best next question, how many it takes at worst;");
        p.due("inquiry", new int[] {y.now(6), y.next(), y.questions()}, 7, 0, 2);
        p.reads("how to be sent out of most of them;");
        p.due("country()", y.country(), 26);
        p.reads("which room it was, by what was felt;");
        p.due("which(0, 8)", y.which(0, 8), 1);
        p.reads("the odds of being rude;");
        p.due("one of four", new int[] {y.odds(0, 0, 5, 2, 0), y.odds(0, 0, 5, 2, 1)}, 1, 4);
        p.reads("cases by kinds; images.");
        p.due("rate, keep, back", new int[] {y.rate(1, 0), y.keep(0), y.back(0)}, 42, 0, 0);
    }

    private static void used() {
        p.reads("======== 1 ROOMS 0 ..");
        DoorCases x = Due.told("r1 2 3;r4 1 6;");
        p.due("numbers of rooms", new int[] {x.room(0, 0), x.room(1, 0), x.room(2, 0)}, 1, 4, DoorCases.NO);
        p.reads("An object is used for at most 512 calls after it has been made; what later calls answer is free.");
        DoorCases late = new DoorCases();
        for (int call = 1; call <= 512; call++) {
            p.due("call " + call, call % 2 == 1 ? late.type(' ') : late.clear(), 1);
        }
    }

    // ---- The public face

    private static void face(String document) {
        Set<String> wanted = new TreeSet<>();
        Matcher m = Pattern.compile("public (int|long) (\\w+)\\(([^)]*)\\);").matcher(document);
        while (m.find()) {
            wanted.add(m.group(1) + " " + m.group(2) + "(" + m.group(3).replaceAll(" \\w+(,|$)", "$1") + ")");
        }
        Set<String> found = new TreeSet<>();
        for (Method method : DoorCases.class.getDeclaredMethods()) {
            if (Modifier.isPublic(method.getModifiers())) {
                String takes = Arrays.toString(method.getParameterTypes()).replaceAll("[\\[\\]]", "");
                found.add(method.getReturnType() + " " + method.getName() + "(" + takes + ")");
            }
        }
        p.due("the face has 27 calls", wanted.size(), 27);
        p.due("the public methods are those of the face: " + found + " for " + wanted, found.equals(wanted));
        p.due("the constants' line stands in the face", document.contains(
            "public static final int BAD = -1, STATE = -2, FULL = -3, NONE = -9;\n"
            + "    public static final int NO = -1000000;"));
        p.due("the constants", new int[] {DoorCases.BAD, DoorCases.STATE, DoorCases.FULL, DoorCases.NONE, DoorCases.NO},
            -1, -2, -3, -9, -1000000);
    }

    // ---- Terms, 1

    private static void rooms() {
        p.reads("(5 at most): FEELING (0 .. 30), TEMPER (0 .. 3), WORTH of its case (0 .. 99).");
        p.readsAs("r0 0 0;r30 3 99;r1 1 1;r1 1 1;r1 1 1;", 5);
        p.readsAs("r0 0 0;r0 0 0;r0 0 0;r0 0 0;r0 0 0;r0 0 0;", -10 - 35);
        p.readsAs("r31 0 0;", -10 - 1);
        p.readsAs("r0 4 0;", -10 - 3);
        p.readsAs("r0 0 100;", -10 - 5);
        DoorCases x = Due.told("r0 0 0;r30 3 99;");
        p.due("least and most", new int[] {x.room(0, 0), x.room(0, 1), x.room(0, 2), x.room(1, 0), x.room(1, 1), x.room(1, 2)},
            0, 0, 0, 30, 3, 99);
    }

    private static void doingsAndSuspects() {
        p.reads("DOINGS 0 .. (5 at most): RUDE (0 .. 9), MINUTES (1 .. 30).");
        p.readsAs("d0 1;d9 30;d1 1;d1 1;d1 1;", 5);
        p.readsAs("d0 1;d0 1;d0 1;d0 1;d0 1;d0 1;", -10 - 25);
        p.readsAs("d10 1;", -10 - 1);
        p.readsAs("d0 0;", -10 - 3);
        p.readsAs("d0 31;", -10 - 3);
        DoorCases x = Due.told("d0 1;d9 30;");
        p.due("least and most", new int[] {x.doing(0, 0), x.doing(0, 1), x.doing(1, 0), x.doing(1, 1)}, 0, 1, 9, 30);
        p.reads("SUSPECTS 0 .. (6 at most): TRAITS (0 .. 4 as bits).");
        p.readsAs("s0;s31;s1;s1;s1;s1;", 6);
        p.readsAs("s0;s0;s0;s0;s0;s0;s0;", -10 - 18);
        p.readsAs("s32;", -10 - 1);
        DoorCases y = Due.told("r0 0 0;s21;s0;s31;");
        p.due("traits", new int[] {y.suspect(0), y.suspect(1), y.suspect(2)}, 21, 0, 31);
        y.goes(0);
        p.due("bits of 21", new int[] {y.asks(0), y.asks(1), y.asks(2), y.asks(3), y.asks(4)}, 1, 0, 1, 0, 1);
    }

    private static void culpritWalkNight() {
        p.reads("CULPRIT (a SUSPECT; 0 at first).");
        p.due("at first", new DoorCases().count(3), 0);
        p.due("not told", Due.told("s1;s2;").count(3), 0);
        p.due("told", Due.told("s1;s2;c1;").count(3), 1);
        p.reads("WALK (0 .. 9 minutes from a ROOM to the next number; 1 at first).");
        p.due("at first", new DoorCases().count(4), 1);
        p.due("not told", Due.told("s1;").count(4), 1);
        p.due("told", new int[] {Due.told("w0;").count(4), Due.told("w9;").count(4)}, 0, 9);
        p.readsAs("w10;", -10 - 1);
        p.reads("NIGHT (1 .. 500 minutes; 120 at first).");
        p.due("at first", new DoorCases().count(5), 120);
        p.due("not told", Due.told("s1;").count(5), 120);
        p.due("told", new int[] {Due.told("n1;").count(5), Due.told("n500;").count(5)}, 1, 500);
        p.readsAs("n0;", -10 - 1);
        p.readsAs("n501;", -10 - 1);
    }

    private static void text() {
        p.reads("They are a text (200 letters at most), told letter by letter, blanks (32) between TOKENS;");
        p.readsAs("  r  1 2   3 ;  d4 5;", 2);
        p.readsAs("r1 2 3;d4 5;", 2);
        DoorCases x = new DoorCases();
        for (int i = 1; i <= 200; i++) {
            p.due("letter " + i, x.type(32), i);
        }
        p.due("one more", x.type(32), DoorCases.FULL);
        p.due("all blanks", x.house(), 0);
        p.readsAs("r1\t2 3;", -10 - 2);
    }

    private static void items() {
        p.reads("ITEMS, each ended by ; : r F T W (a ROOM) ; d U M (a DOING) ; s B (a SUSPECT) ; "
            + "c K (CULPRIT, told ahead), w N (WALK), n N (NIGHT; once at most each).");
        DoorCases x = Due.told("n 7;s 4;r 1 2 3;w 5;s 6;d 8 9;c 1;");
        int[] all = new int[7];
        for (int i = 0; i < all.length; i++) {
            all[i] = x.count(i);
        }
        p.due("count(0 .. 6)", all, 1, 1, 2, 1, 5, 7, 0);
        p.due("room 0", new int[] {x.room(0, 0), x.room(0, 1), x.room(0, 2)}, 1, 2, 3);
        p.due("doing 0", new int[] {x.doing(0, 0), x.doing(0, 1)}, 8, 9);
        p.readsAs("r1 1 1", -10 - 6);
        p.readsAs("r1 1 1 r1 1 1;", -10 - 7);
        p.readsAs("c0;s1;", -10 - 1);
        p.readsAs("s1;c1;s1;", -10 - 4);
        p.readsAs("s1;c0;c0;", -10 - 6);
        p.readsAs("w1;w1;", -10 - 3);
        p.readsAs("n1;n1;", -10 - 3);
    }

    private static void fault() {
        p.reads("TOKENS are the letters r, d, s, c, w, n, NUMBERS and ; .");
        p.readsAs("R1 1 1;", -10);
        p.readsAs("r1,1 1;", -10 - 2);
        p.readsAs("r-1 1 1;", -10 - 1);
        p.reads("FAULT: the place of the first letter of the first TOKEN that can't stand there "
            + "(a sixth r or d, a seventh s, c, w, n again, a SUSPECT that there is not, a NUMBER beyond what it may be, too);");
        p.readsAs(";", -10);
        p.readsAs("7 r1 1 1;", -10);
        p.readsAs("r1 1;", -10 - 4);
        p.readsAs("r1 1 1 1;", -10 - 7);
        p.readsAs("r1 1 1;;", -10 - 7);
        p.readsAs("d1 r1;", -10 - 3);
        p.readsAs("s1; c 1;", -10 - 6);
        p.readsAs("r 12 30 0 x", -10 - 5);
        p.reads("of any other letter, a NUMBER above 500 or with a 0 ahead of others, that TOKEN's;");
        p.readsAs("d1 1;x", -10 - 5);
        p.readsAs("n 501;", -10 - 2);
        p.readsAs("n 12345678901234567890;", -10 - 2);
        p.readsAs("r0 00 0;", -10 - 3);
        p.readsAs("w 05;", -10 - 2);
        p.reads("the text's length, if it ends too early.");
        p.readsAs("r", -10 - 1);
        p.readsAs("d1 1;r1 1 ", -10 - 10);
        p.readsAs("s1;c0", -10 - 5);
        p.readsAs("", 0);
    }

    // ---- Terms, 2

    private static void atFirst() {
        p.reads("======== 2 HE is in no ROOM, 0 minutes have gone by, nothing is SOLVED or asked at first.");
        for (DoorCases x : new DoorCases[] {new DoorCases(), Due.told(HOUSE)}) {
            p.due("now", new int[] {x.now(0), x.now(1), x.now(2), x.now(3), x.now(4), x.now(5), x.now(7)},
                -9, -9, 0, 0, 0, 0, 0);
        }
    }

    private static void gone() {
        p.reads("GONE to a ROOM that is not SOLVED: WALK times how far its number is from that of the ROOM where he is, "
            + "or was last (none: from 0), in minutes; he is in it.");
        DoorCases x = Due.told("r0 1 1;r0 1 2;r0 1 3;r0 1 4;d1 1;w3;");
        p.due("from none", new int[] {x.goes(2), x.now(0), x.now(1), x.now(2)}, 6, 2, 2, 6);
        p.due("back", new int[] {x.goes(1), x.now(0), x.now(1), x.now(2)}, 3, 1, 1, 9);
        p.due("sent out, then from where he was last", new int[] {x.does(0), x.goes(3), x.now(0), x.now(2)}, 1, 6, 3, 16);
        p.due("to one that is solved", x.goes(1), DoorCases.STATE);
    }

    private static void done() {
        p.reads("DONE: a DOING in the ROOM where he is: its MINUTES; FEELING is RUDE times TEMPER less, "
            + "of a DOING that was the last one done in that ROOM half as much (cut).");
        DoorCases x = Due.told("r30 3 1;r30 1 1;d3 4;d1 6;w0;");
        x.goes(0);
        p.due("in full", new int[] {x.does(0), x.room(0, 0), x.room(0, 4), x.now(2)}, 0, 21, 0, 4);
        p.due("half of 9, cut", new int[] {x.does(0), x.room(0, 0), x.now(2)}, 0, 17, 8);
        p.due("another", new int[] {x.does(1), x.room(0, 0), x.room(0, 4), x.now(2)}, 0, 14, 1, 14);
        p.due("the first again", new int[] {x.does(0), x.room(0, 0)}, 0, 5);
        p.due("in another room", new int[] {x.goes(1), x.does(0), x.room(1, 0), x.room(0, 0)}, 0, 0, 27, 5);
        p.due("still the last one there", new int[] {x.goes(0), x.does(0), x.room(0, 0)}, 0, 0, 1);
    }

    private static void sentOut() {
        p.reads("If FEELING is below 0 then, he is SENT OUT: the case is SOLVED, he is in no ROOM (its number is where he was last).");
        DoorCases x = Due.told("r1 1 8;r1 1 9;d1 1;d2 1;");
        x.goes(1);
        p.due("just 0", new int[] {x.does(0), x.room(1, 0), x.room(1, 3), x.now(0)}, 0, 0, 0, 1);
        p.due("below 0", new int[] {x.does(1), x.room(1, 0), x.room(1, 3), x.now(3)}, 1, -2, 1, 2);
        p.due("where", new int[] {x.now(0), x.now(1)}, -9, 1);
    }

    private static void asked() {
        p.reads("ASKED, in a ROOM: whether the CULPRIT has a TRAIT (0 .. 4): 2 minutes.");
        DoorCases x = Due.told(HOUSE);
        p.due("in no room", x.asks(0), DoorCases.STATE);
        x.goes(0);
        p.due("traits of 9", new int[] {x.asks(0), x.now(2), x.asks(1), x.now(2), x.asks(3), x.now(2), x.now(5)},
            1, 2, 0, 4, 1, 6, 11);
        p.reads("Minutes are 9999 at most.");
        DoorCases late = Due.told("r1 0 0;d0 30;d0 9;s1;");
        late.goes(0);
        for (int i = 0; i < 333; i++) {
            late.does(0);
        }
        p.due("9990, one too many, just so many, no more", new int[] {late.now(2), late.does(0), late.does(1), late.now(2),
            late.does(1), late.asks(0), late.now(2)}, 9990, -2, 0, 9999, -2, -2, 9999);
        p.reads("EARNED: WORTH of all that is SOLVED, together.");
        DoorCases z = Due.told(HOUSE);
        p.due("one, then both", new int[] {z.goes(0), z.does(1), z.now(4), z.goes(1), z.does(1), z.does(0), z.now(4)},
            0, 1, 30, 3, 0, 1, 80);
        p.reads("LEFT: SUSPECTS (bits) who agree with the CULPRIT in all TRAITS that were asked.");
        DoorCases left = Due.told("r1 1 1;s6;s2;s7;s4;c2;");
        left.goes(0);
        p.due("all", left.now(6), 15);
        p.due("who has 2", new int[] {left.asks(2), left.now(6)}, 1, 13);
        p.due("who has 1 too", new int[] {left.asks(1), left.now(6)}, 1, 5);
        p.due("who has not 3", new int[] {left.asks(3), left.now(6)}, 0, 5);
        p.due("who has 0 too", new int[] {left.asks(0), left.now(6)}, 1, 4);
    }

    private static void undone() {
        p.reads("UNDONE: the latest goes(), does(), asks() that was not refused (10 are known, older ones are lost).");
        DoorCases x = Due.told("r30 1 1;d1 2;s1;w1;");
        x.goes(0);
        for (int i = 0; i < 10; i++) {
            x.does(0);
        }
        x.goes(0);
        x.asks(7);
        p.due("ten", new int[] {x.now(7), x.now(2)}, 10, 20);
        for (int i = 9; i >= 0; i--) {
            p.due("one undone", new int[] {x.undo(), x.now(2), x.now(7)}, i, 2 * i, i);
        }
        p.due("the eleventh is lost", new int[] {x.undo(), x.now(0), x.now(2)}, -2, 0, 0);
    }

    // ---- Terms, 3

    private static void asThingsAre() {
        p.reads("======== 3 (As things are NOW; nothing is changed.)");
        DoorCases x = Due.told(HOUSE);
        x.goes(1);
        x.does(1);
        String before = Due.look(x);
        p.due("soonest(1, -1) behind does(1)", x.soonest(1, -1), 5);
        int[] answers = {x.loved(), x.round(-1), x.round(-2), x.round(0), x.country(), x.next(), x.questions(), x.which(1, 7)};
        p.due("answers", answers, 4, 80, 19, 1, 16, 0, 2, 2);
        p.due("nothing is changed", Due.look(x).equals(before));
    }

    private static void soonest() {
        p.reads("SOONEST of a ROOM that is not SOLVED: of all rows of DOINGS by which he is SENT OUT of it, were he there, "
            + "that of fewest minutes,");
        DoorCases x = Due.told(HOUSE);
        p.due("room 0", new int[] {x.soonest(0, -1), x.soonest(0, -2), x.soonest(0, 0)}, 11, 1, 1);
        p.due("room 1", new int[] {x.soonest(1, -1), x.soonest(1, -2), x.soonest(1, 0), x.soonest(1, 2)}, 15, 3, 0, 0);
        p.reads("of several that of fewest DOINGS,");
        DoorCases few = Due.told("r5 1 1;d3 2;d3 2;d6 4;");
        p.due("one of 4 minutes, not two of 2", new int[] {few.soonest(0, -1), few.soonest(0, -2), few.soonest(0, 0)}, 4, 1, 2);
        p.reads("of these the first (DOING by DOING):");
        DoorCases first = Due.told("r6 1 1;d1 2;d5 2;d4 2;d3 2;");
        int[] row = {first.soonest(0, -1), first.soonest(0, -2), first.soonest(0, 0), first.soonest(0, 1)};
        p.due("1 and 1, by 5 and 2: 0 and 1 make just 6, 1 and 2 come behind", row, 4, 2, 1, 1);
        p.reads("minutes; how many; the k-th; NONE (never).");
        p.due("room 1", new int[] {x.soonest(1, -1), x.soonest(1, -2), x.soonest(1, 1), x.soonest(1, 3)}, 15, 3, 0, -5);
        p.due("room 2", new int[] {x.soonest(2, -1), x.soonest(2, -2), x.soonest(2, 0)}, -9, -9, -9);
    }

    private static void loved() {
        p.reads("LOVED: ROOMS (bits) not SOLVED out of which he is never SENT.");
        DoorCases x = Due.told("r0 1 1;r1 1 1;r0 0 1;r0 2 1;d1 1;");
        p.due("0 and 3 send him out; 1 at 0 feels no half of 1", x.loved(), 6);
        p.due("none is loved where nothing is", Due.told("d1 1;").loved(), 0);
        p.due("all where nothing can be done", Due.told("r0 3 1;r0 3 1;").loved(), 3);
    }

    private static void round() {
        p.reads("ROUND: of all rows of unlike ROOMS not SOLVED, GONE to one behind another from where he is, or was last, "
            + "SENT OUT of each SOONEST, that can be SOLVED till NIGHT (minutes NOW, too, NIGHT at most) that of most WORTH,");
        p.due("both", roundOf(Due.told(HOUSE)), 80, 29, 0, 1, -5);
        p.due("both, just till night", roundOf(Due.told(HOUSE.replace("n60", "n29"))), 80, 29, 0, 1, -5);
        p.due("a minute less", roundOf(Due.told(HOUSE.replace("n60", "n28"))), 50, 18, 1, -5, -5);
        DoorCases there = Due.told(HOUSE.replace("n60", "n31"));
        there.goes(1);
        p.due("from room 1, 3 minutes gone", roundOf(there), 50, 15, 1, -5, -5);
        DoorCases later = Due.told(HOUSE.replace("n60", "n32"));
        later.goes(1);
        p.due("from room 1, 3 of 32 gone", roundOf(later), 80, 29, 1, 0, -5);
        p.due("solved ones are none", roundOf(solvedFirst()), 50, 18, 1, -5, -5);
        p.reads("of several that of fewest minutes,");
        p.due("2, not 3", roundOf(Due.told("r1 1 5;r0 1 5;d1 2;d2 3;w0;n3;")), 5, 2, 1, -5, -5);
        p.due("no way for nothing", roundOf(Due.told("r0 1 0;r0 1 5;d1 2;w0;")), 5, 2, 1, -5, -5);
        p.reads("of these the first (ROOM by ROOM):");
        p.due("0, 1, 2 of all rows", roundOf(Due.told("r0 1 5;r0 1 5;r0 1 5;d1 2;w0;")), 15, 6, 0, 1, 2);
        p.reads("WORTH; minutes; the k-th ROOM (-5: not so many).");
        p.due("none at all", roundOf(new DoorCases()), 0, 0, -5, -5, -5);
    }

    private static int[] roundOf(DoorCases x) {
        return new int[] {x.round(-1), x.round(-2), x.round(0), x.round(1), x.round(2)};
    }

    private static DoorCases solvedFirst() {
        DoorCases x = Due.told(HOUSE);
        x.goes(0);
        x.does(1);
        return x;
    }

    private static void next() {
        p.reads("NEXT: the TRAIT not asked by which the greater part of LEFT, by either answer, is smallest, of several the lowest;");
        DoorCases x = Due.told("r1 1 1;s1;s3;s5;s13;");
        p.due("1 has one, 2 two, 3 one of four", x.next(), 2);
        x.goes(0);
        x.asks(2);
        p.due("of suspects 0 and 1", new int[] {x.now(6), x.next()}, 3, 1);
        x.asks(1);
        p.reads("NONE (one is LEFT at most, all were asked).");
        p.due("one is left", new int[] {x.now(6), x.next()}, 1, -9);
        p.due("nobody", Due.told("r1 1 1;").next(), -9);
        DoorCases alike = Due.told("r1 1 1;s6;s6;");
        alike.goes(0);
        for (int trait = 0; trait < 5; trait++) {
            p.due("two alike", alike.next(), trait);
            alike.asks(trait);
        }
        p.due("all were asked", new int[] {alike.now(6), alike.next()}, 3, -9);
    }

    private static void questions() {
        p.reads("QUESTIONS: how many it takes at worst till just SUSPECTS of like TRAITS are LEFT, asked as well as can be.");
        p.due("nobody, one, two alike", new int[] {new DoorCases().questions(), Due.told("s4;").questions(),
            Due.told("s4;s4;").questions()}, 0, 0, 0);
        p.due("halves of four", Due.told("s0;s1;s2;s3;").questions(), 2);
        p.due("one by one of four", Due.told("s1;s2;s4;s8;").questions(), 2 + 1);
        p.due("the even part is not always the best one: 2 at worst", Due.told("s0;s1;s3;").questions(), 2);
        DoorCases x = Due.told("r1 1 1;s0;s1;s2;s3;");
        x.goes(0);
        x.asks(0);
        p.due("one less", x.questions(), 1);
    }

    private static void country() {
        p.reads("COUNTRY: the fewest minutes (without WALK) by which he is SENT OUT of more than half of all ROOMS "
            + "(those SOLVED count, no minutes); NONE.");
        p.due("two of three", Due.told(HOUSE).country(), 26);
        p.due("one of three is solved", solvedFirst().country(), 15);
        p.due("both of two", Due.told("r0 1 1;r1 1 1;d1 2;d2 7;w9;").country(), 9);
        p.due("one of two is not enough", Due.told("r0 1 1;r1 0 1;d1 2;").country(), -9);
        p.due("no room", new DoorCases().country(), -9);
        DoorCases most = Due.told("r0 1 1;d1 2;");
        most.goes(0);
        most.does(0);
        p.due("all solved", most.country(), 0);
    }

    private static void felt() {
        p.reads("FELT (5 at most): a DOING (not the last one done there) made a FEELING v (0 .. 30) less.");
        DoorCases x = Due.told(HOUSE);
        p.due("five and no more", new int[] {x.felt(0, 0), x.felt(0, 30), x.felt(1, 1), x.felt(1, 2), x.felt(1, 3),
            x.felt(1, 4), x.count(6)}, 1, 2, 3, 4, 5, -3, 5);
        p.reads("WHICH of a DOING, v: ROOMS (bits) where, if it were not the last one done there, it would make FEELING just v less.");
        DoorCases y = Due.told("r1 2 1;r1 1 1;r1 2 1;r1 0 1;d4 1;d0 1;");
        p.due("of doing 0", new int[] {y.which(0, 8), y.which(0, 4), y.which(0, 0), y.which(0, 7)}, 5, 2, 8, 0);
        p.due("of doing 1", new int[] {y.which(1, 0), y.which(1, 8)}, 15, 0);
        y.goes(1);
        y.does(1);
        y.does(0);
        p.due("where it was the last one done, and is solved", new int[] {y.now(3), y.which(0, 4), y.which(0, 2)}, 2, 2, 0);
        p.reads("TEMPERS: 0 .. 3 (bits) by each of which all that was FELT would be so.");
        DoorCases z = Due.told("d4 1;d0 1;");
        p.due("nothing was felt", z.tempers(), 15);
        p.due("0 of doing 1", new int[] {z.felt(1, 0), z.tempers()}, 1, 15);
        p.due("12 of doing 0", new int[] {z.felt(0, 12), z.tempers()}, 2, 8);
        p.due("4 too", new int[] {z.felt(0, 4), z.tempers()}, 3, 0);
        p.due("1 of doing 1", new int[] {z.forget(), z.felt(1, 1), z.tempers()}, 3, 1, 0);
    }

    private static void odds() {
        p.reads("ODDS of a ROOM not SOLVED, a DOING by x (0 .. 10), n (0 .. 6): it is done n times there "
            + "(half or not does not matter: each time RUDE times TEMPER less), each time overlooked by x of 10: "
            + "that FEELING is below 0 then: a fraction.");
        DoorCases x = Due.told("r12 2 30;r0 1 1;r5 0 1;d4 5;");
        p.due("two of two by one half each", oddsOf(x, 0, 5, 2), 1, 4);
        p.due("two of three at least, by four fifths: 112 of 125", oddsOf(x, 0, 2, 3), 112, 125);
        p.due("always", oddsOf(x, 0, 0, 2), 1, 1);
        p.due("once is not enough", oddsOf(x, 0, 0, 1), 0, 1);
        p.due("always overlooked", oddsOf(x, 1, 10, 6), 0, 1);
        p.due("one of six at least, by one tenth", oddsOf(x, 1, 9, 6), 468559, 1000000);
        p.due("no times", oddsOf(x, 1, 0, 0), 0, 1);
        p.due("temper 0", oddsOf(x, 2, 3, 6), 0, 1);
        x.goes(0);
        x.does(0);
        p.due("4 is left: 8 less is enough, though it was the last one done", oddsOf(x, 0, 5, 1), 1, 2);
        p.due("one of two at least", oddsOf(x, 0, 5, 2), 3, 4);
    }

    private static int[] oddsOf(DoorCases x, int r, int overlooked, int n) {
        return new int[] {x.odds(r, 0, overlooked, n, 0), x.odds(r, 0, overlooked, n, 1)};
    }

    // ---- Terms, 4

    private static void kinds() {
        p.reads("======== 4 KINDS of ROOMS are over one another: 0 ROOM; 1 PARLOUR, 2 HALL, 5 MAT (each under ROOM); "
            + "3 TABLE (under PARLOUR); 4 PASSAGE (under HALL).");
        DoorCases x = Due.told(HOUSE);
        x.goes(0);
        x.does(1);
        int[] rates = {x.rate(0, 1), x.rate(1, 1), x.rate(2, 1), x.rate(3, 1), x.rate(4, 1), x.rate(5, 1)};
        p.due("of room 1, 30 earned", rates, 7, 57, 6, 114, 7, 37);
        p.reads("RATE of a ROOM as if of a KIND (numbers in brackets are added to THE TRACE, 0 at first, as often as rate() asks "
            + "that body: each once; \"up\" is what the KIND above does): ROOM its FEELING (1). PARLOUR up, and its WORTH (10). "
            + "HALL up less its TEMPER (100). TABLE twice up (1000). PASSAGE up, and its number (10000). "
            + "MAT up, and EARNED (100000).");
        int[] marks = {1, 11, 101, 1011, 10101, 100001};
        for (int kind = 0; kind < marks.length; kind++) {
            DoorCases y = Due.told(HOUSE);
            p.due("at first", y.trace(), 0);
            y.rate(kind, 2);
            p.due("kind " + kind, y.trace(), marks[kind]);
        }
        int[] below = {x.rate(0, 0), x.rate(1, 0), x.rate(2, 0), x.rate(3, 0), x.rate(4, 0), x.rate(5, 0)};
        p.due("of room 0, at -2", below, -2, 28, -4, 56, -4, 28);
        p.due("all of it", x.trace(), 2 * (1 + 11 + 101 + 1011 + 10101 + 100001));
    }

    private static void images() {
        p.reads("IMAGES 0, 1 keep NOW (where he is, was last, FEELINGS, what was done last in each ROOM, what is SOLVED, asked, "
            + "minutes); nothing else (nothing can be UNDONE behind back()).");
        DoorCases x = Due.told(HOUSE);
        x.keep(0);
        x.goes(0);
        x.does(0);
        x.asks(0);
        String kept = Edges.momentOf(x);
        p.due("keep(1)", x.keep(1), 7);
        x.does(1);
        x.felt(0, 8);
        x.rate(0, 0);
        x.type('r');
        p.due("back(1), and what can be undone", new int[] {x.back(1), x.now(7), x.undo()}, 7, 0, -2);
        p.due("now as kept", Edges.momentOf(x).equals(kept));
        p.due("felt, text, trace are not of it", new int[] {x.count(6), x.count(7), (int) x.trace()}, 1, 1, 1);
        p.due("back(0)", new int[] {x.back(0), x.now(0), x.now(1), x.now(3), x.now(5), x.room(0, 0), x.room(0, 4)},
            0, -9, -9, 0, 0, 12, -9);
        p.reads("(Read anew: as told, nothing SOLVED, asked, FELT, IMAGES are gone.)");
        x.goes(1);
        x.does(1);
        x.asks(1);
        x.does(0);
        p.due("anew", Due.tell(x, HOUSE), 11);
        p.due("at first again", new int[] {x.now(0), x.now(1), x.now(2), x.now(3), x.now(4), x.now(5), x.now(6), x.now(7)},
            -9, -9, 0, 0, 0, 0, 7, 0);
        p.due("as told", new int[] {x.room(1, 0), x.room(1, 3), x.room(1, 4), x.count(6), x.tempers()}, 7, 0, -9, 0, 15);
        p.due("images are gone", new int[] {x.back(0), x.back(1)}, -2, -2);
    }

    private static void refused() {
        p.reads("Refused, and nothing changes, the first of these: BAD (a number is not as told, or there is no such thing), "
            + "STATE (as told), FULL.");
        DoorCases x = Due.told(HOUSE);
        for (int i = 0; i < 5; i++) {
            x.felt(0, 8);
        }
        while (x.type(' ') > 0) {
        }
        String before = Due.look(x);
        p.due("BAD ahead of STATE", new int[] {x.does(2), x.asks(5), x.back(2), x.odds(3, 0, 0, 0, 0)}, -1, -1, -1, -1);
        p.due("STATE", new int[] {x.does(1), x.asks(4), x.back(1), x.undo()}, -2, -2, -2, -2);
        p.due("BAD ahead of FULL", new int[] {x.felt(2, 0), x.felt(0, 31), x.type(256), x.type(-1)}, -1, -1, -1, -1);
        p.due("FULL", new int[] {x.felt(0, 8), x.type('r')}, -3, -3);
        p.due("nothing changes", Due.look(x).equals(before));
        p.reads("The constants: `NO = -1000000`: What none is, where a number may be below 0.");
        p.due("NO", new int[] {x.room(3, 0), x.rate(0, 3)}, -1000000, -1000000);
    }

    private static void order(String[] args) throws IOException {
        String source = Files.readString(Path.of(args.length > 0 ? args[0] : ".", "src/main/java/DoorCases.java"));
        p.reads("Ahead of the calls `type`, `clear`, `house`, `room`, `doing`, `suspect`, `now` the interface says: ---- the house.");
        under(source, "the house", "type", "clear", "house", "room", "doing", "suspect", "now");
        p.reads("Ahead of the calls `goes`, `does`, `asks`, `undo` the interface says: ---- what is done.");
        under(source, "what is done", "goes", "does", "asks", "undo");
        p.reads("Ahead of the calls `soonest`, `loved`, `round`, `country` the interface says: ---- how he is sent out.");
        under(source, "how he is sent out", "soonest", "loved", "round", "country");
        p.reads("Ahead of the calls `next`, `questions` the interface says: ---- whom it was.");
        under(source, "whom it was", "next", "questions");
        p.reads("Ahead of the calls `felt`, `forget`, `tempers`, `which`, `odds` the interface says: ---- what was felt.");
        under(source, "what was felt", "felt", "forget", "tempers", "which", "odds");
        p.reads("Ahead of the calls `rate`, `keep`, `back`, `count`, `trace` the interface says: ---- kinds, images.");
        under(source, "kinds, images", "rate", "keep", "back", "count", "trace");
    }

    /** The calls stand in the source behind this heading and ahead of the next one. */
    private static void under(String source, String heading, String... calls) {
        int from = source.indexOf("// ---- " + heading + "\n");
        int to = from < 0 ? -1 : source.indexOf("// ---- ", from + 1);
        p.due("the heading " + heading, from >= 0 && to > from);
        for (String call : calls) {
            int at = source.indexOf(" " + call + "(", Math.max(from, 0));
            p.due(call + " stands under " + heading, at > from && at < to);
        }
    }
}
