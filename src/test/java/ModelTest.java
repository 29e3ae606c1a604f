/** All promises: long runs of calls, made by counting, each answered by the class and by the model. */
public final class ModelTest {
    private static final int RUNS = 4000;
    private static final int CALLS = 512;
    private static final Due T = new Due("ModelTest");

    private long seed;
    private DoorCases x;
    private Model m;
    private int calls;
    private final StringBuilder told = new StringBuilder();

    public static void main(String[] args) {
        for (int run = 1; run <= RUNS; run++) {
            new ModelTest().run(run);
        }
        T.end();
    }

    /** From 0 to below the bound; the same numbers in every run of the test. */
    private int pick(int bound) {
        seed = seed * 6364136223846793005L + 1442695040888963407L;
        return (int) ((seed >>> 33) % bound);
    }

    private void due(String call, long got, long want) {
        calls++;
        if (got != want) {
            T.due(call + " behind" + told, got, want);
        } else {
            T.due(call, got, want);
        }
        told.append(' ').append(call);
    }

    private void run(int number) {
        seed = number * 7919L;
        pick(2);
        x = new DoorCases();
        m = new Model();
        tellSome();
        while (calls < CALLS - 250) {
            someCall();
        }
        if (pick(3) == 0) {
            tellSome();
        }
        // Some steps make two calls, and what is answered behind the 512th is free.
        while (calls < CALLS - 1) {
            someCall();
        }
    }

    private void tellSome() {
        String text = pick(4) == 0 ? noise() : goodText();
        if (pick(4) == 0 && !text.isEmpty()) {
            int at = pick(text.length());
            String put = pick(3) == 0 ? "" : "" + "rdscwn; 0123456789xR,\u00e9".charAt(pick(22));
            text = text.substring(0, at) + put + text.substring(at + pick(2));
        }
        for (int i = 0; i < text.length() && i < 200; i++) {
            due("type(" + (int) text.charAt(i) + ")", x.type(text.charAt(i)), m.type(text.charAt(i)));
        }
        due("house()", x.house(), m.house());
    }

    private String noise() {
        StringBuilder text = new StringBuilder();
        int length = pick(40);
        for (int i = 0; i < length; i++) {
            text.append("rdscwn;; 0123456789".charAt(pick(19)));
        }
        return text.toString();
    }

    private String goodText() {
        StringBuilder text = new StringBuilder();
        int feeling = pick(3) == 0 ? 5 : 31;
        int rude = pick(2) == 0 ? 4 : 10;
        int minutes = pick(2) == 0 ? 4 : 30;
        int worth = pick(2) == 0 ? 3 : 100;
        int rooms = pick(4) == 0 ? pick(6) : 4 + pick(2);
        for (int i = 0; i < rooms; i++) {
            text.append('r').append(pick(feeling)).append(' ').append(pick(4)).append(' ').append(pick(worth)).append(';');
        }
        int doings = pick(4) == 0 ? pick(6) : 3 + pick(3);
        for (int i = 0; i < doings; i++) {
            text.append('d').append(pick(rude)).append(' ').append(1 + pick(minutes)).append(pick(2) == 0 ? " ;" : ";");
        }
        int suspects = pick(7);
        int traits = pick(2) == 0 ? 32 : 8;
        for (int i = 0; i < suspects; i++) {
            text.append('s').append(pick(traits)).append(';');
        }
        if (suspects > 0 && pick(2) == 0) {
            text.append("c ").append(pick(suspects)).append(';');
        }
        if (pick(2) == 0) {
            text.append('w').append(pick(10)).append(';');
        }
        if (pick(2) == 0) {
            text.append('n').append(1 + pick(pick(2) == 0 ? 60 : 500)).append(';');
        }
        return text.toString();
    }

    /** Mostly what there is, now and then what there is not. */
    private int some(int bound) {
        return pick(12) == 0 ? pick(bound + 4) - 2 : pick(Math.max(1, bound));
    }

    private void someCall() {
        int rooms = m.count(0);
        int doings = m.count(1);
        int a = some(rooms);
        int b = some(doings);
        switch (pick(24)) {
            case 0: case 1: case 2: due("goes(" + a + ")", x.goes(a), m.goes(a)); break;
            case 3: case 4: case 5: case 6: due("does(" + b + ")", x.does(b), m.does(b)); break;
            case 7: int t = some(5); due("asks(" + t + ")", x.asks(t), m.asks(t)); break;
            case 8: due("undo()", x.undo(), m.undo()); break;
            case 9: case 10: case 11: int k = pick(8) - 3; due("soonest(" + a + ", " + k + ")", x.soonest(a, k), m.soonest(a, k)); break;
            case 12: due("loved()", x.loved(), m.loved()); break;
            case 13: int w = pick(9) - 3; due("round(" + w + ")", x.round(w), m.round(w)); break;
            case 14: due("country()", x.country(), m.country()); break;
            case 15: due("next()", x.next(), m.next()); due("questions()", x.questions(), m.questions()); break;
            case 16: case 17: feltCall(b); break;
            case 18: oddsCall(a, b); break;
            case 19: int kind = some(6); due("rate(" + kind + ", " + a + ")", x.rate(kind, a), m.rate(kind, a)); break;
            case 20: imageCall(); break;
            case 21: int what = some(8); due("now(" + what + ")", x.now(what), m.now(what)); break;
            case 22: int of = some(5); due("room(" + a + ", " + of + ")", x.room(a, of), m.room(a, of)); break;
            default: rareCall(b); break;
        }
    }

    private void feltCall(int d) {
        int v = pick(3) == 0 ? pick(34) - 1 : Math.max(0, m.doing(d, 0)) * pick(4);
        switch (pick(5)) {
            case 0: due("felt(" + d + ", " + v + ")", x.felt(d, v), m.felt(d, v)); break;
            case 1: due("tempers()", x.tempers(), m.tempers()); break;
            case 2: due("which(" + d + ", " + v + ")", x.which(d, v), m.which(d, v)); break;
            case 3: due("count(6)", x.count(6), m.count(6)); break;
            default: if (pick(3) == 0) { due("forget()", x.forget(), m.forget()); } break;
        }
    }

    private void oddsCall(int r, int d) {
        int by = some(11);
        int n = some(7);
        int what = some(2);
        due("odds(" + r + ", " + d + ", " + by + ", " + n + ", " + what + ")", x.odds(r, d, by, n, what), m.odds(r, d, by, n, what));
    }

    private void imageCall() {
        int image = some(2);
        if (pick(2) == 0) {
            due("keep(" + image + ")", x.keep(image), m.keep(image));
        } else {
            due("back(" + image + ")", x.back(image), m.back(image));
        }
    }

    private void rareCall(int d) {
        int what = some(8);
        switch (pick(6)) {
            case 0: due("doing(" + d + ", 0)", x.doing(d, 0), m.doing(d, 0)); break;
            case 1: due("doing(" + d + ", " + what + ")", x.doing(d, what), m.doing(d, what)); break;
            case 2: due("suspect(" + what + ")", x.suspect(what), m.suspect(what)); break;
            case 3: due("count(" + what + ")", x.count(what), m.count(what)); break;
            case 4: due("trace()", x.trace(), m.trace()); break;
            default: due("clear()", x.clear(), m.clear()); break;
        }
    }
}
