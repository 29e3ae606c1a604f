import java.math.BigInteger;
import java.util.ArrayDeque;
import java.util.ArrayList;
import java.util.Arrays;
import java.util.Comparator;
import java.util.Deque;
import java.util.HashSet;
import java.util.List;
import java.util.PriorityQueue;
import java.util.Set;

/** The document once more, by other ways: rows tried out one by one where the class counts. */
final class Model {
    /** All that images keep. */
    private static final class Now {
        Integer here;
        Integer was;
        int minutes;
        Set<Integer> solved = new HashSet<>();
        Set<Integer> asked = new HashSet<>();
        List<Integer> feelings = new ArrayList<>();
        List<Integer> done = new ArrayList<>();

        Now copy() {
            Now n = new Now();
            n.here = here;
            n.was = was;
            n.minutes = minutes;
            n.solved = new HashSet<>(solved);
            n.asked = new HashSet<>(asked);
            n.feelings = new ArrayList<>(feelings);
            n.done = new ArrayList<>(done);
            return n;
        }
    }

    private StringBuilder text = new StringBuilder();
    private List<int[]> rooms = new ArrayList<>();
    private List<int[]> doings = new ArrayList<>();
    private List<Integer> suspects = new ArrayList<>();
    private int culprit = 0;
    private int walk = 1;
    private int night = 120;
    private Now now = new Now();
    private final Deque<Now> past = new ArrayDeque<>();
    private final Now[] images = new Now[2];
    private final List<int[]> felt = new ArrayList<>();
    private long trace = 0;

    int type(int letter) {
        if (letter < 0 || letter > 255) {
            return -1;
        }
        if (text.length() == 200) {
            return -3;
        }
        text.append((char) letter);
        return text.length();
    }

    int clear() {
        int n = text.length();
        text = new StringBuilder();
        return n;
    }

    // ---- the text: cut into tokens first, then walked through by what each item wants

    private record Token(int place, String word) { }

    private List<Token> tokens() {
        List<Token> all = new ArrayList<>();
        for (int i = 0; i < text.length(); ) {
            int end = i + 1;
            if (Character.isDigit(text.charAt(i)) && text.charAt(i) < 128) {
                while (end < text.length() && "0123456789".indexOf(text.charAt(end)) >= 0) {
                    end++;
                }
            }
            if (text.charAt(i) != ' ') {
                all.add(new Token(i, text.substring(i, end)));
            }
            i = end;
        }
        return all;
    }

    private static int[][] wanted(char letter, int suspectsSoFar) {
        switch (letter) {
            case 'r': return new int[][] {{0, 30}, {0, 3}, {0, 99}};
            case 'd': return new int[][] {{0, 9}, {1, 30}};
            case 's': return new int[][] {{0, 31}};
            case 'c': return new int[][] {{0, suspectsSoFar - 1}};
            case 'w': return new int[][] {{0, 9}};
            default: return new int[][] {{1, 500}};
        }
    }

    int house() {
        List<Token> all = tokens();
        List<List<Integer>> read = new ArrayList<>();
        int[] many = new int[6];
        int i = 0;
        while (i < all.size()) {
            String word = all.get(i).word();
            int letter = word.length() == 1 ? "rdscwn".indexOf(word) : -1;
            if (letter < 0 || many[letter] == new int[] {5, 5, 6, 1, 1, 1}[letter]) {
                return -10 - all.get(i).place();
            }
            many[letter]++;
            List<Integer> item = new ArrayList<>(List.of(letter));
            i++;
            for (int[] range : wanted(word.charAt(0), many[2])) {
                if (i == all.size()) {
                    return -10 - text.length();
                }
                String number = all.get(i).word();
                boolean good = number.matches("0|[1-9][0-9]{0,2}")
                    && Integer.parseInt(number) >= range[0] && Integer.parseInt(number) <= range[1];
                if (!good) {
                    return -10 - all.get(i).place();
                }
                item.add(Integer.parseInt(number));
                i++;
            }
            if (i == all.size()) {
                return -10 - text.length();
            }
            if (!all.get(i).word().equals(";")) {
                return -10 - all.get(i).place();
            }
            i++;
            read.add(item);
        }
        take(read);
        return read.size();
    }

    private void take(List<List<Integer>> items) {
        rooms = new ArrayList<>();
        doings = new ArrayList<>();
        suspects = new ArrayList<>();
        culprit = 0;
        walk = 1;
        night = 120;
        now = new Now();
        for (List<Integer> item : items) {
            switch (item.get(0)) {
                case 0:
                    rooms.add(new int[] {item.get(1), item.get(2), item.get(3)});
                    now.feelings.add(item.get(1));
                    now.done.add(-9);
                    break;
                case 1: doings.add(new int[] {item.get(1), item.get(2)}); break;
                case 2: suspects.add(item.get(1)); break;
                case 3: culprit = item.get(1); break;
                case 4: walk = item.get(1); break;
                default: night = item.get(1); break;
            }
        }
        past.clear();
        felt.clear();
        Arrays.fill(images, null);
        text = new StringBuilder();
    }

    private boolean noRoom(int r) {
        return r < 0 || r >= rooms.size();
    }

    private boolean noDoing(int d) {
        return d < 0 || d >= doings.size();
    }

    int room(int r, int what) {
        if (noRoom(r) || what < 0 || what > 4) {
            return -1000000;
        }
        return new int[] {now.feelings.get(r), rooms.get(r)[1], rooms.get(r)[2],
            now.solved.contains(r) ? 1 : 0, now.done.get(r)}[what];
    }

    int doing(int d, int what) {
        return noDoing(d) || what < 0 || what > 1 ? -1 : doings.get(d)[what];
    }

    int suspect(int s) {
        return s < 0 || s >= suspects.size() ? -1 : suspects.get(s);
    }

    private static int bits(Iterable<Integer> of) {
        int sum = 0;
        for (int i : of) {
            sum += 1 << i;
        }
        return sum;
    }

    private int earned() {
        return now.solved.stream().mapToInt(r -> rooms.get(r)[2]).sum();
    }

    private static boolean has(int traits, int trait) {
        return (traits & (1 << trait)) != 0;
    }

    private List<Integer> left() {
        List<Integer> all = new ArrayList<>();
        for (int s = 0; s < suspects.size(); s++) {
            int traits = suspects.get(s);
            if (now.asked.stream().allMatch(t -> has(traits, t) == has(suspects.get(culprit), t))) {
                all.add(s);
            }
        }
        return all;
    }

    int now(int what) {
        switch (what) {
            case 0: return now.here == null ? -9 : now.here;
            case 1: return now.was == null ? -9 : now.was;
            case 2: return now.minutes;
            case 3: return bits(now.solved);
            case 4: return earned();
            case 5: return bits(now.asked);
            case 6: return bits(left());
            case 7: return past.size();
            default: return -1;
        }
    }

    private void remember() {
        past.addLast(now.copy());
        if (past.size() > 10) {
            past.removeFirst();
        }
    }

    int goes(int r) {
        if (noRoom(r)) {
            return -1;
        }
        int far = Math.abs(r - (now.was == null ? 0 : now.was)) * walk;
        if (now.solved.contains(r) || (now.here != null && now.here == r) || now.minutes + far > 9999) {
            return -2;
        }
        remember();
        now.minutes += far;
        now.here = r;
        now.was = r;
        return far;
    }

    private int less(int r, int d, int last) {
        int whole = doings.get(d)[0] * rooms.get(r)[1];
        return d == last ? whole / 2 : whole;
    }

    int does(int d) {
        if (noDoing(d)) {
            return -1;
        }
        if (now.here == null || now.minutes + doings.get(d)[1] > 9999) {
            return -2;
        }
        remember();
        int r = now.here;
        now.minutes += doings.get(d)[1];
        now.feelings.set(r, now.feelings.get(r) - less(r, d, now.done.get(r)));
        now.done.set(r, d);
        if (now.feelings.get(r) >= 0) {
            return 0;
        }
        now.solved.add(r);
        now.here = null;
        return 1;
    }

    int asks(int trait) {
        if (trait < 0 || trait > 4) {
            return -1;
        }
        if (now.here == null || now.asked.contains(trait) || suspects.isEmpty() || now.minutes + 2 > 9999) {
            return -2;
        }
        remember();
        now.minutes += 2;
        now.asked.add(trait);
        return has(suspects.get(culprit), trait) ? 1 : 0;
    }

    int undo() {
        if (past.isEmpty()) {
            return -2;
        }
        now = past.removeLast();
        return past.size();
    }

    // ---- how he is sent out: rows grow at their ends, the best row comes off the queue first

    private record Row(int minutes, String doings, int feeling, int last) { }

    private Row out(int r) {
        PriorityQueue<Row> open = new PriorityQueue<>(Comparator.comparingInt(Row::minutes)
            .thenComparingInt(w -> w.doings().length()).thenComparing(Row::doings));
        Set<String> seen = new HashSet<>();
        open.add(new Row(0, "", now.feelings.get(r), now.done.get(r)));
        while (!open.isEmpty()) {
            Row row = open.remove();
            if (row.feeling() < 0) {
                return row;
            }
            if (seen.add(row.feeling() + " " + row.last())) {
                for (int d = 0; d < doings.size(); d++) {
                    open.add(new Row(row.minutes() + doings.get(d)[1], row.doings() + d,
                        row.feeling() - less(r, d, row.last()), d));
                }
            }
        }
        return null;
    }

    int soonest(int r, int k) {
        if (noRoom(r) || k < -2) {
            return -1;
        }
        if (now.solved.contains(r)) {
            return -2;
        }
        Row row = out(r);
        if (row == null) {
            return -9;
        }
        if (k < 0) {
            return k == -1 ? row.minutes() : row.doings().length();
        }
        return k < row.doings().length() ? row.doings().charAt(k) - '0' : -5;
    }

    private Row[] allOut() {
        Row[] all = new Row[rooms.size()];
        for (int r = 0; r < all.length; r++) {
            all[r] = now.solved.contains(r) ? null : out(r);
        }
        return all;
    }

    int loved() {
        int sum = 0;
        for (int r = 0; r < rooms.size(); r++) {
            sum += !now.solved.contains(r) && out(r) == null ? 1 << r : 0;
        }
        return sum;
    }

    /** All rows of unlike rooms, as texts. */
    private void rows(String row, List<String> all) {
        all.add(row);
        for (int r = 0; r < rooms.size(); r++) {
            if (row.indexOf('0' + r) < 0) {
                rows(row + r, all);
            }
        }
    }

    int round(int k) {
        if (k < -2) {
            return -1;
        }
        List<String> all = new ArrayList<>();
        rows("", all);
        Row[] out = allOut();
        String best = null;
        int bestWorth = 0;
        int bestMinutes = 0;
        for (String row : all) {
            int place = now.was == null ? 0 : now.was;
            int minutes = 0;
            int worth = 0;
            boolean can = true;
            for (char c : row.toCharArray()) {
                int r = c - '0';
                can = can && out[r] != null;
                minutes += Math.abs(place - r) * walk + (out[r] == null ? 0 : out[r].minutes());
                worth += rooms.get(r)[2];
                place = r;
            }
            can = can && (row.isEmpty() || now.minutes + minutes <= night);
            boolean better = best == null || worth > bestWorth || (worth == bestWorth
                && (minutes < bestMinutes || (minutes == bestMinutes && row.compareTo(best) < 0)));
            if (can && better) {
                best = row;
                bestWorth = worth;
                bestMinutes = minutes;
            }
        }
        if (k < 0) {
            return k == -1 ? bestWorth : bestMinutes;
        }
        return k < best.length() ? best.charAt(k) - '0' : -5;
    }

    int country() {
        int best = -9;
        Row[] out = allOut();
        for (int set = 0; set < 1 << rooms.size(); set++) {
            int minutes = 0;
            boolean can = 2 * Integer.bitCount(set) > rooms.size();
            for (int r = 0; r < rooms.size(); r++) {
                if ((set & (1 << r)) != 0 && !now.solved.contains(r)) {
                    can = can && out[r] != null;
                    minutes += out[r] == null ? 0 : out[r].minutes();
                }
            }
            if (can && (best == -9 || minutes < best)) {
                best = minutes;
            }
        }
        return best;
    }

    int next() {
        List<Integer> left = left();
        int best = -9;
        long smallest = 99;
        for (int t = 0; t < 5 && left.size() > 1; t++) {
            int trait = t;
            long yes = left.stream().filter(s -> has(suspects.get(s), trait)).count();
            long part = Math.max(yes, left.size() - yes);
            if (!now.asked.contains(t) && part < smallest) {
                smallest = part;
                best = t;
            }
        }
        return best;
    }

    int questions() {
        return worst(left().stream().map(suspects::get).distinct().toList());
    }

    private static int worst(List<Integer> of) {
        if (of.size() <= 1) {
            return 0;
        }
        int best = 99;
        for (int t = 0; t < 5; t++) {
            int trait = t;
            List<Integer> yes = of.stream().filter(b -> has(b, trait)).toList();
            List<Integer> no = of.stream().filter(b -> !has(b, trait)).toList();
            if (!yes.isEmpty() && !no.isEmpty()) {
                best = Math.min(best, 1 + Math.max(worst(yes), worst(no)));
            }
        }
        return best;
    }

    int felt(int d, int v) {
        if (noDoing(d) || v < 0 || v > 30) {
            return -1;
        }
        if (felt.size() == 5) {
            return -3;
        }
        felt.add(new int[] {d, v});
        return felt.size();
    }

    int forget() {
        int n = felt.size();
        felt.clear();
        return n;
    }

    int tempers() {
        int sum = 0;
        for (int t = 0; t < 4; t++) {
            int temper = t;
            sum += felt.stream().allMatch(f -> doings.get(f[0])[0] * temper == f[1]) ? 1 << t : 0;
        }
        return sum;
    }

    int which(int d, int v) {
        if (noDoing(d) || v < 0 || v > 30) {
            return -1;
        }
        int sum = 0;
        for (int r = 0; r < rooms.size(); r++) {
            sum += less(r, d, -9) == v ? 1 << r : 0;
        }
        return sum;
    }

    /** Every one of 10 to the n ways is two to the n ways of being overlooked or not, weighed. */
    int odds(int r, int d, int x, int n, int what) {
        if (noRoom(r) || noDoing(d) || x < 0 || x > 10 || n < 0 || n > 6 || what < 0 || what > 1) {
            return -1;
        }
        if (now.solved.contains(r)) {
            return -2;
        }
        BigInteger upper = BigInteger.ZERO;
        for (int way = 0; way < 1 << n; way++) {
            BigInteger weight = BigInteger.ONE;
            int feeling = now.feelings.get(r);
            for (int i = 0; i < n; i++) {
                boolean seen = (way & (1 << i)) != 0;
                weight = weight.multiply(BigInteger.valueOf(seen ? 10 - x : x));
                feeling -= seen ? less(r, d, -9) : 0;
            }
            upper = feeling < 0 ? upper.add(weight) : upper;
        }
        BigInteger lower = BigInteger.TEN.pow(n);
        BigInteger common = upper.gcd(lower);
        return (what == 0 ? upper : lower).divide(common).intValueExact();
    }

    int rate(int kind, int r) {
        if (kind < 0 || kind > 5 || noRoom(r)) {
            return -1000000;
        }
        int feeling = now.feelings.get(r);
        int temper = rooms.get(r)[1];
        int worth = rooms.get(r)[2];
        trace += new int[] {1, 11, 101, 1011, 10101, 100001}[kind];
        return new int[] {feeling, feeling + worth, feeling - temper, 2 * (feeling + worth), feeling - temper + r,
            feeling + earned()}[kind];
    }

    int keep(int image) {
        if (image < 0 || image > 1) {
            return -1;
        }
        images[image] = now.copy();
        return now.minutes;
    }

    int back(int image) {
        if (image < 0 || image > 1) {
            return -1;
        }
        if (images[image] == null) {
            return -2;
        }
        now = images[image].copy();
        past.clear();
        return now.minutes;
    }

    int count(int what) {
        return what < 0 || what > 7 ? -1 : new int[] {rooms.size(), doings.size(), suspects.size(), culprit, walk, night,
            felt.size(), text.length()}[what];
    }

    long trace() {
        return trace;
    }
}
