/** What all tests share: answers that are due, and texts told letter by letter. */
final class Due {
    private final String test;
    private int right = 0;
    private int wrong = 0;

    Due(String test) {
        this.test = test;
    }

    void due(String call, long got, long want) {
        if (got == want) {
            right++;
        } else {
            wrong++;
            System.out.println(test + ": " + call + " answered " + got + ", due is " + want);
        }
    }

    void due(String what, boolean holds) {
        due(what, holds ? 1 : 0, 1);
    }

    /** Types the text; the object's text must be empty. */
    static void type(DoorCases x, String text) {
        for (int i = 0; i < text.length(); i++) {
            x.type(text.charAt(i));
        }
    }

    static int tell(DoorCases x, String text) {
        x.clear();
        type(x, text);
        return x.house();
    }

    static DoorCases told(String text) {
        DoorCases x = new DoorCases();
        int items = tell(x, text);
        if (items < 0) {
            throw new IllegalStateException("the test's own text is wrong: " + text + " " + items);
        }
        return x;
    }

    /** All answers that change nothing, so that two moments can be compared. */
    static String look(DoorCases x) {
        StringBuilder all = new StringBuilder();
        for (int r = 0; r < 5; r++) {
            for (int what = 0; what < 5; what++) {
                all.append(x.room(r, what)).append(' ');
            }
        }
        for (int d = 0; d < 5; d++) {
            all.append(x.doing(d, 0)).append(' ').append(x.doing(d, 1)).append(' ');
        }
        for (int s = 0; s < 6; s++) {
            all.append(x.suspect(s)).append(' ');
        }
        for (int what = 0; what < 8; what++) {
            all.append(x.now(what)).append(' ').append(x.count(what)).append(' ');
        }
        return all.append(x.tempers()).append(' ').append(x.trace()).toString();
    }

    void end() {
        System.out.println(test + ": " + right + " answers as due, " + wrong + " not");
        if (wrong != 0) {
            System.exit(1);
        }
    }
}
