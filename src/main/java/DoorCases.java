import java.util.Arrays;

/**
 * A detective who solves a case as soon as he is sent out of the room.
 * What each call promises stands in the project's document, DOC.md.
 */
public final class DoorCases {
    public static final int BAD = -1, STATE = -2, FULL = -3, NONE = -9;
    public static final int NO = -1000000;

    private static final int TOO_FEW = -5;
    private static final int FAULT_BASE = -10;

    private static final int MOST_ROOMS = 5;
    private static final int MOST_DOINGS = 5;
    private static final int MOST_SUSPECTS = 6;
    private static final int MOST_TRAITS = 5;
    private static final int MOST_FEELING = 30;
    private static final int MOST_TEMPER = 3;
    private static final int MOST_LETTERS = 200;
    private static final int MOST_MINUTES = 9999;
    private static final int MOST_UNDONE = 10;
    private static final int MOST_FELT = 5;
    private static final int MOST_IMAGES = 2;
    private static final int MOST_TIMES = 6;
    private static final int QUESTION_MINUTES = 2;

    private static final int KIND_ROOM = 0;
    private static final int KIND_PARLOUR = 1;
    private static final int KIND_HALL = 2;
    private static final int KIND_TABLE = 3;
    private static final int KIND_PASSAGE = 4;
    private static final int KIND_MAT = 5;
    private static final int[] KIND_ABOVE = {-1, KIND_ROOM, KIND_ROOM, KIND_PARLOUR, KIND_HALL, KIND_ROOM};
    private static final int[] KIND_MARK = {1, 10, 100, 1000, 10000, 100000};

    private final Reader reader;
    private House told;
    private House draft;
    private final Scene scene;
    private final Past past;
    private final Scene[] images;
    private int imagesKept;
    private final Exits exits;
    private final Evening evening;
    private final Inquiry inquiry;
    private final Memory memory;
    private final int[] chances;
    private long traceSum;

    public DoorCases() {
        reader = new Reader();
        told = new House();
        draft = new House();
        scene = new Scene();
        past = new Past();
        images = new Scene[MOST_IMAGES];
        for (int i = 0; i < MOST_IMAGES; i++) {
            images[i] = new Scene();
        }
        imagesKept = 0;
        exits = new Exits();
        evening = new Evening();
        inquiry = new Inquiry();
        memory = new Memory();
        chances = new int[MOST_TIMES + 1];
        traceSum = 0;
    }

    // ---- the house

    public int type(int letter) {
        if (letter < 0 || letter > 255) {
            return BAD;
        }
        if (reader.length >= MOST_LETTERS) {
            return FULL;
        }
        reader.add(letter);
        return reader.length;
    }

    public int clear() {
        int had = reader.length;
        reader.length = 0;
        return had;
    }

    public int house() {
        // The draft takes all that is read, so a fault leaves what was told before as it is.
        int items = reader.readInto(draft);
        if (items < 0) {
            return FAULT_BASE - reader.fault;
        }
        House before = told;
        told = draft;
        draft = before;
        reader.length = 0;
        scene.beginIn(told);
        past.lose();
        imagesKept = 0;
        memory.size = 0;
        return items;
    }

    public int room(int r, int what) {
        if (!told.hasRoom(r)) {
            return NO;
        }
        switch (what) {
            case 0: return scene.feeling[r];
            case 1: return told.temper[r];
            case 2: return told.worth[r];
            case 3: return scene.isSolved(r) ? 1 : 0;
            case 4: return scene.lastDone[r];
            default: return NO;
        }
    }

    public int doing(int d, int what) {
        if (!told.hasDoing(d)) {
            return BAD;
        }
        switch (what) {
            case 0: return told.rude[d];
            case 1: return told.takes[d];
            default: return BAD;
        }
    }

    public int suspect(int s) {
        if (s < 0 || s >= told.suspects) {
            return BAD;
        }
        return told.traits[s];
    }

    public int now(int what) {
        switch (what) {
            case 0: return scene.here;
            case 1: return scene.lastPlace;
            case 2: return scene.minutes;
            case 3: return scene.solved;
            case 4: return scene.earnedIn(told);
            case 5: return scene.asked;
            case 6: return Inquiry.leftOf(told, scene.asked);
            case 7: return past.size;
            default: return BAD;
        }
    }

    // ---- what is done

    public int goes(int r) {
        if (!told.hasRoom(r)) {
            return BAD;
        }
        if (scene.isSolved(r) || scene.here == r) {
            return STATE;
        }
        int walked = told.walkBetween(scene.lastPlace, r);
        if (scene.minutes + walked > MOST_MINUTES) {
            return STATE;
        }
        past.remember(scene);
        scene.minutes += walked;
        scene.here = r;
        scene.lastPlace = r;
        return walked;
    }

    public int does(int d) {
        if (!told.hasDoing(d)) {
            return BAD;
        }
        int r = scene.here;
        if (!told.hasRoom(r) || scene.minutes + told.takes[d] > MOST_MINUTES) {
            return STATE;
        }
        past.remember(scene);
        scene.takeDoing(told, r, d);
        return scene.isSolved(r) ? 1 : 0;
    }

    public int asks(int trait) {
        if (trait < 0 || trait >= MOST_TRAITS) {
            return BAD;
        }
        boolean wasAsked = (scene.asked >> trait & 1) == 1;
        if (scene.here == NONE || wasAsked || told.suspects == 0) {
            return STATE;
        }
        if (scene.minutes + QUESTION_MINUTES > MOST_MINUTES) {
            return STATE;
        }
        past.remember(scene);
        scene.minutes += QUESTION_MINUTES;
        scene.asked |= 1 << trait;
        return told.traits[told.culprit] >> trait & 1;
    }

    public int undo() {
        if (past.size == 0) {
            return STATE;
        }
        past.restore(scene);
        return past.size;
    }

    // ---- how he is sent out

    public int soonest(int r, int k) {
        if (!told.hasRoom(r) || k < -2) {
            return BAD;
        }
        if (scene.isSolved(r)) {
            return STATE;
        }
        exits.solve(told, scene, r);
        if (exits.isNever()) {
            return NONE;
        }
        switch (k) {
            case -1: return exits.minutesNeeded();
            case -2: return exits.doingsNeeded();
            default: return exits.doingAt(k);
        }
    }

    public int loved() {
        exits.solveAll(told, scene);
        int bits = 0;
        for (int r = 0; r < told.rooms; r++) {
            if (!scene.isSolved(r) && exits.minutesOut[r] == NONE) {
                bits |= 1 << r;
            }
        }
        return bits;
    }

    public int round(int k) {
        if (k < -2) {
            return BAD;
        }
        exits.solveAll(told, scene);
        evening.plan(told, scene, exits.minutesOut);
        switch (k) {
            case -1: return evening.bestWorth;
            case -2: return evening.bestMinutes;
            default: return k < evening.bestSize ? evening.best[k] : TOO_FEW;
        }
    }

    public int country() {
        int wanted = told.rooms / 2 + 1 - Integer.bitCount(scene.solved);
        exits.solveAll(told, scene);
        int taken = 0;
        int sum = 0;
        for (int i = 0; i < wanted; i++) {
            int r = exits.cheapestBut(taken);
            if (r == NONE) {
                return NONE;
            }
            taken |= 1 << r;
            sum += exits.minutesOut[r];
        }
        return sum;
    }

    // ---- whom it was

    public int next() {
        return Inquiry.bestTrait(told, scene.asked);
    }

    public int questions() {
        return inquiry.mostNeeded(told, Inquiry.leftOf(told, scene.asked));
    }

    // ---- what was felt

    public int felt(int d, int v) {
        if (!told.hasDoing(d) || v < 0 || v > MOST_FEELING) {
            return BAD;
        }
        if (memory.size >= MOST_FELT) {
            return FULL;
        }
        memory.add(d, v);
        return memory.size;
    }

    public int forget() {
        int had = memory.size;
        memory.size = 0;
        return had;
    }

    public int tempers() {
        int bits = 0;
        for (int temper = 0; temper <= MOST_TEMPER; temper++) {
            if (memory.agreesWith(told, temper)) {
                bits |= 1 << temper;
            }
        }
        return bits;
    }

    public int which(int d, int v) {
        if (!told.hasDoing(d) || v < 0 || v > MOST_FEELING) {
            return BAD;
        }
        int bits = 0;
        for (int r = 0; r < told.rooms; r++) {
            if (told.fullLoss(r, d) == v) {
                bits |= 1 << r;
            }
        }
        return bits;
    }

    public int odds(int r, int d, int x, int n, int what) {
        if (!told.hasRoom(r) || !told.hasDoing(d) || what < 0 || what > 1) {
            return BAD;
        }
        if (x < 0 || x > 10 || n < 0 || n > MOST_TIMES) {
            return BAD;
        }
        if (scene.isSolved(r)) {
            return STATE;
        }
        int lower = countChances(x, n);
        int upper = 0;
        for (int noticed = 0; noticed <= n; noticed++) {
            if (noticed * told.fullLoss(r, d) > scene.feeling[r]) {
                upper += chances[noticed];
            }
        }
        int common = commonDivisor(lower, upper);
        return (what == 0 ? upper : lower) / common;
    }

    // ---- kinds, images

    public int rate(int kind, int r) {
        if (kind < KIND_ROOM || kind > KIND_MAT || !told.hasRoom(r)) {
            return NO;
        }
        return rateAs(kind, r);
    }

    public int keep(int image) {
        if (image < 0 || image >= MOST_IMAGES) {
            return BAD;
        }
        images[image].copyOf(scene);
        imagesKept |= 1 << image;
        return scene.minutes;
    }

    public int back(int image) {
        if (image < 0 || image >= MOST_IMAGES) {
            return BAD;
        }
        if ((imagesKept >> image & 1) == 0) {
            return STATE;
        }
        scene.copyOf(images[image]);
        past.lose();
        return scene.minutes;
    }

    public int count(int what) {
        switch (what) {
            case 0: return told.rooms;
            case 1: return told.doings;
            case 2: return told.suspects;
            case 3: return told.culprit;
            case 4: return told.walk;
            case 5: return told.night;
            case 6: return memory.size;
            case 7: return reader.length;
            default: return BAD;
        }
    }

    public long trace() {
        return traceSum;
    }

    // ---- helpers

    /** Each body asks the one above it just once, "twice up" too: the kinds stand three deep at most. */
    private int rateAs(int kind, int r) {
        if (kind < KIND_ROOM || kind > KIND_MAT) {
            return 0;
        }
        traceSum += KIND_MARK[kind];
        int up = kind == KIND_ROOM ? 0 : rateAs(KIND_ABOVE[kind], r);
        switch (kind) {
            case KIND_PARLOUR: return up + told.worth[r];
            case KIND_HALL: return up - told.temper[r];
            case KIND_TABLE: return 2 * up;
            case KIND_PASSAGE: return up + r;
            case KIND_MAT: return up + scene.earnedIn(told);
            default: return scene.feeling[r];
        }
    }

    /** A doing done again at once counts half. */
    private static int lossOf(int full, boolean again) {
        return again ? full / 2 : full;
    }

    /** Fills chances[i] with the ways, of 10 to the n that it answers, in which i of n doings are noticed. */
    private int countChances(int x, int n) {
        Arrays.fill(chances, 0);
        chances[0] = 1;
        int ways = 1;
        for (int done = 1; done <= n; done++) {
            for (int i = done; i > 0; i--) {
                chances[i] = chances[i] * x + chances[i - 1] * (10 - x);
            }
            chances[0] *= x;
            ways *= 10;
        }
        return ways;
    }

    /** Of a number above 0 and one that is not below 0; numbers up to a million take thirty steps at most. */
    private static int commonDivisor(int above, int other) {
        int a = above;
        int b = other;
        for (int step = 0; step < 64 && b != 0; step++) {
            int rest = a % b;
            a = b;
            b = rest;
        }
        return a == 0 ? 1 : a;
    }

    /** What the text tells. */
    private static final class House {
        int rooms;
        final int[] feeling;
        final int[] temper;
        final int[] worth;
        int doings;
        final int[] rude;
        final int[] takes;
        int suspects;
        final int[] traits;
        int culprit;
        int walk;
        int night;

        House() {
            feeling = new int[MOST_ROOMS];
            temper = new int[MOST_ROOMS];
            worth = new int[MOST_ROOMS];
            rude = new int[MOST_DOINGS];
            takes = new int[MOST_DOINGS];
            traits = new int[MOST_SUSPECTS];
            tellNothing();
        }

        void tellNothing() {
            rooms = 0;
            doings = 0;
            suspects = 0;
            culprit = 0;
            walk = 1;
            night = 120;
        }

        boolean hasRoom(int r) {
            return r >= 0 && r < rooms;
        }

        boolean hasDoing(int d) {
            return d >= 0 && d < doings;
        }

        int walkBetween(int from, int to) {
            return walk * Math.abs(to - (from == NONE ? 0 : from));
        }

        int fullLoss(int r, int d) {
            return rude[d] * temper[r];
        }
    }

    /** The text, letter by letter, and how it is read token by token. */
    private static final class Reader {
        private final int[] letters;
        int length;
        int fault;
        private int at;
        private boolean culpritTold;
        private boolean walkTold;
        private boolean nightTold;

        Reader() {
            letters = new int[MOST_LETTERS];
            length = 0;
            fault = 0;
        }

        void add(int letter) {
            if (length < MOST_LETTERS) {
                letters[length] = letter;
                length++;
            }
        }

        /** Answers how many items there are, or -1 and leaves the place in fault. */
        int readInto(House house) {
            house.tellNothing();
            at = 0;
            culpritTold = false;
            walkTold = false;
            nightTold = false;
            skipBlanks();
            int items = 0;
            for (int i = 0; i < MOST_LETTERS && at < length; i++) {
                if (!readItem(house)) {
                    return -1;
                }
                items++;
                skipBlanks();
            }
            return items;
        }

        private boolean readItem(House house) {
            switch (letters[at]) {
                case 'r': return readRoom(house) && readEnd();
                case 'd': return readDoing(house) && readEnd();
                case 's': return readSuspect(house) && readEnd();
                case 'c': return readCulprit(house) && readEnd();
                case 'w': return readWalk(house) && readEnd();
                case 'n': return readNight(house) && readEnd();
                default: return failsAt(at);
            }
        }

        private boolean readRoom(House house) {
            int r = house.rooms;
            if (r >= MOST_ROOMS) {
                return failsAt(at);
            }
            at++;
            house.feeling[r] = readNumber(0, MOST_FEELING);
            if (house.feeling[r] < 0) {
                return false;
            }
            house.temper[r] = readNumber(0, MOST_TEMPER);
            if (house.temper[r] < 0) {
                return false;
            }
            house.worth[r] = readNumber(0, 99);
            house.rooms++;
            return house.worth[r] >= 0;
        }

        private boolean readDoing(House house) {
            int d = house.doings;
            if (d >= MOST_DOINGS) {
                return failsAt(at);
            }
            at++;
            house.rude[d] = readNumber(0, 9);
            if (house.rude[d] < 0) {
                return false;
            }
            house.takes[d] = readNumber(1, 30);
            house.doings++;
            return house.takes[d] >= 0;
        }

        private boolean readSuspect(House house) {
            int s = house.suspects;
            if (s >= MOST_SUSPECTS) {
                return failsAt(at);
            }
            at++;
            house.traits[s] = readNumber(0, (1 << MOST_TRAITS) - 1);
            house.suspects++;
            return house.traits[s] >= 0;
        }

        private boolean readCulprit(House house) {
            if (culpritTold) {
                return failsAt(at);
            }
            culpritTold = true;
            at++;
            house.culprit = readNumber(0, house.suspects - 1);
            return house.culprit >= 0;
        }

        private boolean readWalk(House house) {
            if (walkTold) {
                return failsAt(at);
            }
            walkTold = true;
            at++;
            house.walk = readNumber(0, 9);
            return house.walk >= 0;
        }

        private boolean readNight(House house) {
            if (nightTold) {
                return failsAt(at);
            }
            nightTold = true;
            at++;
            house.night = readNumber(1, 500);
            return house.night >= 0;
        }

        private boolean readEnd() {
            skipBlanks();
            if (at >= length || letters[at] != ';') {
                return failsAt(at);
            }
            at++;
            return true;
        }

        /** Answers the number, or -1 if it can't stand there. */
        private int readNumber(int least, int most) {
            skipBlanks();
            int start = at;
            int value = 0;
            for (int i = start; i < length && isDigit(letters[i]); i++) {
                // Capped, since a row of digits may be as long as the text.
                value = Math.min(value * 10 + letters[i] - '0', 1000);
                at = i + 1;
            }
            boolean zeroAhead = at - start > 1 && letters[start] == '0';
            if (at == start || zeroAhead || value < least || value > most) {
                fault = start;
                return -1;
            }
            return value;
        }

        private void skipBlanks() {
            for (int i = at; i < length && letters[i] == ' '; i++) {
                at = i + 1;
            }
        }

        private boolean failsAt(int place) {
            fault = place;
            return false;
        }

        private static boolean isDigit(int letter) {
            return letter >= '0' && letter <= '9';
        }
    }

    /** All that images keep and undo brings back. */
    private static final class Scene {
        int here;
        int lastPlace;
        int minutes;
        int solved;
        int asked;
        final int[] feeling;
        final int[] lastDone;

        Scene() {
            feeling = new int[MOST_ROOMS];
            lastDone = new int[MOST_ROOMS];
            here = NONE;
            lastPlace = NONE;
        }

        void beginIn(House house) {
            here = NONE;
            lastPlace = NONE;
            minutes = 0;
            solved = 0;
            asked = 0;
            System.arraycopy(house.feeling, 0, feeling, 0, MOST_ROOMS);
            Arrays.fill(lastDone, NONE);
        }

        void copyOf(Scene other) {
            here = other.here;
            lastPlace = other.lastPlace;
            minutes = other.minutes;
            solved = other.solved;
            asked = other.asked;
            System.arraycopy(other.feeling, 0, feeling, 0, MOST_ROOMS);
            System.arraycopy(other.lastDone, 0, lastDone, 0, MOST_ROOMS);
        }

        boolean isSolved(int r) {
            return (solved >> r & 1) == 1;
        }

        int earnedIn(House house) {
            int sum = 0;
            for (int r = 0; r < house.rooms; r++) {
                if (isSolved(r)) {
                    sum += house.worth[r];
                }
            }
            return sum;
        }

        void takeDoing(House house, int r, int d) {
            minutes += house.takes[d];
            feeling[r] -= lossOf(house.fullLoss(r, d), lastDone[r] == d);
            lastDone[r] = d;
            if (feeling[r] < 0) {
                solved |= 1 << r;
                here = NONE;
            }
        }
    }

    /** The scenes ahead of the latest doings, in a ring that loses the oldest. */
    private static final class Past {
        private final Scene[] scenes;
        private int top;
        int size;

        Past() {
            scenes = new Scene[MOST_UNDONE];
            for (int i = 0; i < MOST_UNDONE; i++) {
                scenes[i] = new Scene();
            }
            top = 0;
            size = 0;
        }

        void lose() {
            size = 0;
        }

        void remember(Scene scene) {
            scenes[top].copyOf(scene);
            top = (top + 1) % MOST_UNDONE;
            size = Math.min(size + 1, MOST_UNDONE);
        }

        void restore(Scene scene) {
            top = (top + MOST_UNDONE - 1) % MOST_UNDONE;
            scene.copyOf(scenes[top]);
            size--;
        }
    }

    /** How he is sent out of a room soonest. */
    private static final class Exits {
        /** One number for minutes and how many doings, so that the lesser number is the better row. */
        static final int MINUTE = 1000;
        static final int NEVER = 1000000000;
        /** Stands for the doing done last where there is none; no doing has this number. */
        static final int NO_DOING = MOST_DOINGS;
        static final int LASTS = MOST_DOINGS + 1;

        /** The cost of the best row from a feeling and a doing done last. */
        private final int[] cost;
        /** By room, NONE where he is never sent out or it is solved. */
        final int[] minutesOut;
        private int doings;
        private final int[] full;
        private final int[] takes;
        private int feeling;
        private int last;

        Exits() {
            cost = new int[(MOST_FEELING + 1) * LASTS];
            minutesOut = new int[MOST_ROOMS];
            full = new int[MOST_DOINGS];
            takes = new int[MOST_DOINGS];
        }

        void solve(House house, Scene scene, int r) {
            doings = house.doings;
            for (int d = 0; d < doings; d++) {
                full[d] = house.fullLoss(r, d);
                takes[d] = house.takes[d];
            }
            feeling = Math.max(0, Math.min(scene.feeling[r], MOST_FEELING));
            last = scene.lastDone[r] == NONE ? NO_DOING : scene.lastDone[r];
            Arrays.fill(cost, NEVER);
            for (int f = 0; f <= feeling; f++) {
                // The second pass is for a doing that takes no feeling: it makes the others count in full again.
                // A third is never wanted, as behind such a doing all the others count in full already.
                solveLevel(f);
                solveLevel(f);
            }
        }

        private void solveLevel(int f) {
            for (int l = 0; l < LASTS; l++) {
                for (int d = 0; d < doings; d++) {
                    int index = indexOf(f, l);
                    cost[index] = Math.min(cost[index], costThrough(f, l, d));
                }
            }
        }

        private static int indexOf(int f, int l) {
            return f * LASTS + l;
        }

        private int costThrough(int f, int l, int d) {
            int rest = f - lossOf(full[d], l == d);
            int behind = rest < 0 ? 0 : cost[indexOf(rest, d)];
            return behind >= NEVER ? NEVER : takes[d] * MINUTE + 1 + behind;
        }

        private int costNow() {
            return cost[indexOf(feeling, last)];
        }

        boolean isNever() {
            return costNow() >= NEVER;
        }

        int minutesNeeded() {
            return costNow() / MINUTE;
        }

        int doingsNeeded() {
            return costNow() % MINUTE;
        }

        int doingAt(int k) {
            if (k < 0 || k >= doingsNeeded()) {
                return TOO_FEW;
            }
            int f = feeling;
            int l = last;
            for (int i = 0; i < k && f >= 0; i++) {
                int d = firstOfBest(f, l);
                f -= lossOf(full[d], l == d);
                l = d;
            }
            return f < 0 ? TOO_FEW : firstOfBest(f, l);
        }

        private int firstOfBest(int f, int l) {
            for (int d = 0; d < doings; d++) {
                if (costThrough(f, l, d) == cost[indexOf(f, l)]) {
                    return d;
                }
            }
            return 0;
        }

        void solveAll(House house, Scene scene) {
            Arrays.fill(minutesOut, NONE);
            for (int r = 0; r < house.rooms; r++) {
                if (!scene.isSolved(r)) {
                    solve(house, scene, r);
                    minutesOut[r] = isNever() ? NONE : minutesNeeded();
                }
            }
        }

        /** The room of fewest minutes that is not among the bits taken, or NONE. */
        int cheapestBut(int taken) {
            int found = NONE;
            int fewest = NEVER;
            for (int r = 0; r < MOST_ROOMS; r++) {
                boolean open = minutesOut[r] != NONE && (taken >> r & 1) == 0;
                if (open && minutesOut[r] < fewest) {
                    fewest = minutesOut[r];
                    found = r;
                }
            }
            return found;
        }
    }

    /** Which rooms in which order in a night. */
    private static final class Evening {
        final int[] best;
        int bestSize;
        int bestWorth;
        int bestMinutes;
        private final int[] row;
        private final int[] minutesOut;
        private int minutesLeft;

        Evening() {
            best = new int[MOST_ROOMS];
            row = new int[MOST_ROOMS];
            minutesOut = new int[MOST_ROOMS];
        }

        void plan(House house, Scene scene, int[] roomMinutes) {
            System.arraycopy(roomMinutes, 0, minutesOut, 0, MOST_ROOMS);
            minutesLeft = house.night - scene.minutes;
            bestSize = 0;
            bestWorth = 0;
            bestMinutes = 0;
            extend(house, 0, scene.lastPlace, 0, 0, 0);
        }

        /** Rows come in their order, so of equal ones the first stays. */
        private void extend(House house, int size, int place, int minutes, int worth, int used) {
            if (size >= MOST_ROOMS) {
                return;
            }
            for (int r = 0; r < house.rooms; r++) {
                if (minutesOut[r] != NONE && (used >> r & 1) == 0) {
                    int then = minutes + house.walkBetween(place, r) + minutesOut[r];
                    int gained = worth + house.worth[r];
                    if (then <= minutesLeft) {
                        row[size] = r;
                        weigh(size + 1, gained, then);
                        extend(house, size + 1, r, then, gained, used | 1 << r);
                    }
                }
            }
        }

        private void weigh(int size, int worth, int minutes) {
            if (worth > bestWorth || (worth == bestWorth && minutes < bestMinutes)) {
                bestSize = size;
                bestWorth = worth;
                bestMinutes = minutes;
                System.arraycopy(row, 0, best, 0, size);
            }
        }
    }

    /** Whom it can have been. */
    private static final class Inquiry {
        /** By a set of suspects: how many questions it takes at worst. */
        private final int[] needed;
        /** By a trait: the suspects who have it. */
        private final int[] having;

        Inquiry() {
            having = new int[MOST_TRAITS];
            needed = new int[1 << MOST_SUSPECTS];
        }

        static int leftOf(House house, int asked) {
            int bits = 0;
            for (int s = 0; s < house.suspects; s++) {
                int unlike = house.traits[s] ^ house.traits[house.culprit];
                if ((unlike & asked) == 0) {
                    bits |= 1 << s;
                }
            }
            return bits;
        }

        private static int withTrait(House house, int trait) {
            int bits = 0;
            for (int s = 0; s < house.suspects; s++) {
                bits |= (house.traits[s] >> trait & 1) << s;
            }
            return bits;
        }

        static int bestTrait(House house, int asked) {
            int left = leftOf(house, asked);
            int total = Integer.bitCount(left);
            if (total <= 1) {
                return NONE;
            }
            int found = NONE;
            int smallest = total + 1;
            for (int trait = 0; trait < MOST_TRAITS; trait++) {
                int yes = Integer.bitCount(left & withTrait(house, trait));
                int greater = Math.max(yes, total - yes);
                if ((asked >> trait & 1) == 0 && greater < smallest) {
                    smallest = greater;
                    found = trait;
                }
            }
            return found;
        }

        int mostNeeded(House house, int left) {
            for (int trait = 0; trait < MOST_TRAITS; trait++) {
                having[trait] = withTrait(house, trait);
            }
            // A set's parts are lesser numbers than the set, so they are known ahead of it.
            for (int set = 0; set <= left; set++) {
                needed[set] = neededOf(set);
            }
            return needed[left];
        }

        private int neededOf(int set) {
            int fewest = MOST_TRAITS + 1;
            for (int trait = 0; trait < MOST_TRAITS; trait++) {
                int yes = set & having[trait];
                int no = set & ~having[trait];
                if (yes != 0 && no != 0) {
                    fewest = Math.min(fewest, 1 + Math.max(needed[yes], needed[no]));
                }
            }
            // No trait parts suspects who are alike in all.
            return fewest > MOST_TRAITS ? 0 : fewest;
        }
    }

    /** What was felt. */
    private static final class Memory {
        private final int[] doing;
        private final int[] loss;
        int size;

        Memory() {
            doing = new int[MOST_FELT];
            loss = new int[MOST_FELT];
            size = 0;
        }

        void add(int d, int v) {
            if (size < MOST_FELT) {
                doing[size] = d;
                loss[size] = v;
                size++;
            }
        }

        boolean agreesWith(House house, int temper) {
            for (int i = 0; i < size; i++) {
                if (house.rude[doing[i]] * temper != loss[i]) {
                    return false;
                }
            }
            return true;
        }
    }
}
