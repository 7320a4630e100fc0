import java.util.ArrayDeque;
import java.util.ArrayList;
import java.util.Arrays;
import java.util.Deque;
import java.util.List;

/**
 * The document once more, told by brute force and with the Java library, to compare with: whole
 * trains are lived through hour by hour for everything that is tried.
 */
final class Oracle {
    private static final int NONE = -1, UNKNOWN = -1000000001, OUTSIDE = -1000000002;
    private static final int NOT = -1000000003, FULL = -1000000004;

    /** A word, a number (all its figures) or the end, and where it starts. */
    private record Token(char kind, String figures, int place) {
        boolean isNumber() {
            return kind == '#';
        }

        int value() {
            return figures.length() > 3 ? 9999 : Integer.parseInt(figures);
        }
    }

    private static final class Fault extends Exception {
        private static final long serialVersionUID = 1;
        final int number;
        final int place;

        Fault(int number, int place) {
            this.number = number;
            this.place = place;
        }
    }

    private static final class World {
        int[] car = new int[0];
        boolean[] awake = new boolean[0];
        int hour;

        World copy() {
            World w = new World();
            w.car = car.clone();
            w.awake = awake.clone();
            w.hour = hour;
            return w;
        }
    }

    private StringBuilder text = new StringBuilder();
    private int faultPlace = NONE;
    private List<Integer> berths = new ArrayList<>();
    private List<int[]> people = new ArrayList<>();
    private List<int[]> couples = new ArrayList<>();
    private boolean[] tuned = law(57);
    private World now = new World();
    private Deque<World> past = new ArrayDeque<>();
    private List<int[]> book = new ArrayList<>();
    private final World[] images = new World[2];
    private final int[] imageSeeds = new int[2];
    private long seed;

    private static boolean[] law(int set) {
        boolean[] law = new boolean[7];
        for (int i = 0; i < 7; i++) {
            law[i] = (set >> i) % 2 == 1;
        }
        return law;
    }

    int feed(int letter) {
        if (letter < 0 || letter > 255) {
            return OUTSIDE;
        }
        if (text.length() == 240) {
            return FULL;
        }
        text.append((char) letter);
        return text.length();
    }

    int train() {
        String told = text.toString();
        text = new StringBuilder();
        List<Integer> newBerths = new ArrayList<>();
        List<int[]> newPeople = new ArrayList<>();
        List<int[]> newCouples = new ArrayList<>();
        List<Integer> newLaw = new ArrayList<>();
        try {
            parse(tokens(told), newBerths, newPeople, newCouples, newLaw);
        } catch (Fault f) {
            faultPlace = f.place;
            return -10 - f.number;
        }
        faultPlace = NONE;
        berths = newBerths;
        people = newPeople;
        couples = newCouples;
        tuned = law(57);
        if (!newLaw.isEmpty()) {
            tuned = new boolean[7];
            for (int i : newLaw) {
                tuned[i] = true;
            }
        }
        now = new World();
        now.car = new int[people.size()];
        Arrays.fill(now.car, NONE);
        now.awake = new boolean[people.size()];
        past.clear();
        book.clear();
        Arrays.fill(images, null);
        return berths.size();
    }

    private static List<Token> tokens(String told) {
        List<Token> all = new ArrayList<>();
        int i = 0;
        while (i < told.length()) {
            char c = told.charAt(i);
            int start = i;
            if (c >= '0' && c <= '9') {
                while (i < told.length() && told.charAt(i) >= '0' && told.charAt(i) <= '9') {
                    i++;
                }
                all.add(new Token('#', told.substring(start, i), start));
            } else {
                if (c != ' ') {
                    all.add(new Token(c == '#' ? '?' : c, "", start));
                }
                i++;
            }
        }
        all.add(new Token('$', "", told.length()));
        return all;
    }

    private static void parse(List<Token> all, List<Integer> berths, List<int[]> people, List<int[]> couples,
            List<Integer> law) throws Fault {
        int i = 0;
        boolean hasEnd = all.size() > 0;
        while (hasEnd && i < all.size() - 1) {
            Token word = all.get(i);
            boolean known = "ksic".indexOf(word.kind) >= 0;
            if (!known || i == 0 && word.kind != 'k') {
                throw new Fault(1, word.place);
            }
            if (word.kind == 'k' && i > 0 || word.kind == 'i' && !law.isEmpty()
                    || word.kind == 's' && people.size() == 8 || word.kind == 'c' && couples.size() == 4) {
                throw new Fault(3, word.place);
            }
            i++;
            int figure = 0;
            List<Integer> clause = new ArrayList<>();
            boolean open = true;
            while (open) {
                Token t = all.get(i++);
                if (!t.isNumber()) {
                    throw new Fault(1, t.place);
                }
                checkNumber(word.kind, figure, t, clause, people, couples);
                clause.add(t.value());
                figure++;
                boolean list = word.kind == 'k' || word.kind == 'i';
                int due = word.kind == 's' ? 5 : 2;
                if (list) {
                    Token next = all.get(i++);
                    boolean comma = next.kind == ',' && !(word.kind == 'k' && figure == 4);
                    if (!comma && next.kind != ';') {
                        throw new Fault(1, next.place);
                    }
                    open = comma;
                } else if (figure == due) {
                    Token next = all.get(i++);
                    if (next.kind != ';') {
                        throw new Fault(1, next.place);
                    }
                    open = false;
                }
            }
            switch (word.kind) {
                case 'k' -> berths.addAll(clause);
                case 'i' -> law.addAll(clause);
                case 's' -> people.add(clause.stream().mapToInt(Integer::intValue).toArray());
                default -> couples.add(clause.stream().mapToInt(Integer::intValue).toArray());
            }
        }
    }

    private static void checkNumber(char word, int figure, Token t, List<Integer> before, List<int[]> people,
            List<int[]> couples) throws Fault {
        int[] most = {11, 9, 40, 12, 12};
        int v = t.value();
        boolean bad = switch (word) {
            case 'k' -> v < 1 || v > 8;
            case 'i' -> v > 6;
            case 's' -> v > most[figure];
            default -> v >= people.size();
        };
        if (bad) {
            throw new Fault(2, t.place);
        }
        boolean disorder = switch (word) {
            case 'k' -> false;
            case 'i' -> figure > 0 && v <= before.get(figure - 1);
            case 's' -> figure == 4 && v < before.get(3);
            default -> couples.stream().anyMatch(c -> c[0] == v || c[1] == v) || figure == 1 && v == before.get(0);
        };
        if (disorder) {
            throw new Fault(4, t.place);
        }
    }

    int fault() {
        return faultPlace;
    }

    int told(int what) {
        return switch (what) {
            case 0 -> berths.size();
            case 1 -> people.size();
            case 2 -> couples.size();
            case 3 -> {
                int set = 0;
                for (int i = 0; i < 7; i++) {
                    set += tuned[i] ? 1 << i : 0;
                }
                yield set;
            }
            case 4 -> text.length();
            case 5 -> now.hour;
            case 6 -> setOf(now.awake);
            case 7 -> {
                int set = 0;
                for (int s = 0; s < people.size(); s++) {
                    set += now.car[s] == NONE ? 1 << s : 0;
                }
                yield set;
            }
            case 8 -> book.size();
            case 9 -> past.size();
            default -> OUTSIDE;
        };
    }

    private static int setOf(boolean[] bits) {
        int set = 0;
        for (int s = 0; s < bits.length; s++) {
            set += bits[s] ? 1 << s : 0;
        }
        return set;
    }

    private boolean noCar(int k) {
        return k < 0 || k >= berths.size();
    }

    private boolean noOne(int s) {
        return s < 0 || s >= people.size();
    }

    private boolean noSet(int set) {
        return set < 0 || set >= 1 << people.size();
    }

    private int distance(int p, int q) {
        int d = (p - q + 12) % 12;
        return d > 6 ? 12 - d : d;
    }

    private boolean snores(World w, int s, int hour) {
        int[] p = people.get(s);
        return w.car[s] != NONE && !w.awake[s] && hour >= p[3] && hour < p[4];
    }

    private int noise(World w, boolean[] law, int s, int hour) {
        if (w.car[s] == NONE || w.awake[s] || hour >= 12) {
            return 0;
        }
        int all = 0;
        for (int t = 0; t < people.size(); t++) {
            if (t != s && w.car[t] == w.car[s] && snores(w, t, hour)
                    && !law[distance(people.get(s)[0], people.get(t)[0])]) {
                all += people.get(t)[1];
            }
        }
        return all;
    }

    private boolean outOfTune(World w, int k, int hour) {
        for (int s = 0; s < people.size(); s++) {
            for (int t = 0; t < s; t++) {
                if (w.car[s] == k && w.car[t] == k && snores(w, s, hour) && snores(w, t, hour)
                        && !tuned[distance(people.get(s)[0], people.get(t)[0])]) {
                    return true;
                }
            }
        }
        return false;
    }

    private void live(World w, boolean[] law) {
        boolean[] after = w.awake.clone();
        for (int s = 0; s < people.size(); s++) {
            if (noise(w, law, s, w.hour) > people.get(s)[2]) {
                after[s] = true;
            }
        }
        w.awake = after;
        w.hour++;
    }

    private int morning(World from, boolean[] law) {
        World w = from.copy();
        while (w.hour < 12) {
            live(w, law);
        }
        return setOf(w.awake);
    }

    private World newEvening() {
        World w = now.copy();
        Arrays.fill(w.awake, false);
        w.hour = 0;
        return w;
    }

    int car(int k, int what) {
        if (noCar(k)) {
            return UNKNOWN;
        }
        if (what < 0 || what > 2) {
            return OUTSIDE;
        }
        if (what == 0) {
            return berths.get(k);
        }
        if (what == 2) {
            return now.hour < 12 && outOfTune(now, k, now.hour) ? 1 : 0;
        }
        return crew(now, k);
    }

    private int crew(World w, int k) {
        int set = 0;
        for (int s = 0; s < people.size(); s++) {
            set += w.car[s] == k ? 1 << s : 0;
        }
        return set;
    }

    private boolean hasRoom(World w, int k) {
        return Integer.bitCount(crew(w, k)) < berths.get(k);
    }

    int sleeper(int s, int what) {
        if (noOne(s)) {
            return UNKNOWN;
        }
        if (what < 0 || what > 8) {
            return OUTSIDE;
        }
        if (what < 5) {
            return people.get(s)[what];
        }
        if (what == 5) {
            return now.car[s];
        }
        if (what == 6) {
            return now.awake[s] ? 1 : 0;
        }
        if (what == 8) {
            return noise(now, tuned, s, now.hour);
        }
        for (int[] c : couples) {
            if (c[0] == s || c[1] == s) {
                return c[0] + c[1] - s;
            }
        }
        return NONE;
    }

    int interval(int a, int b) {
        return noOne(a) || noOne(b) || a == b ? UNKNOWN : distance(people.get(a)[0], people.get(b)[0]);
    }

    private void remember() {
        past.addLast(now.copy());
        if (past.size() > 20) {
            past.removeFirst();
        }
    }

    int put(int s, int k) {
        if (noOne(s) || noCar(k)) {
            return UNKNOWN;
        }
        if (now.car[s] == k || !hasRoom(now, k)) {
            return NOT;
        }
        remember();
        int was = now.car[s];
        now.car[s] = k;
        return was;
    }

    int off(int s) {
        if (noOne(s)) {
            return UNKNOWN;
        }
        if (now.car[s] == NONE) {
            return NOT;
        }
        remember();
        int was = now.car[s];
        now.car[s] = NONE;
        return was;
    }

    int hour(int n) {
        if (n < 1 || n > 12) {
            return OUTSIDE;
        }
        if (berths.isEmpty() || now.hour == 12) {
            return NOT;
        }
        remember();
        while (n-- > 0 && now.hour < 12) {
            live(now, tuned);
        }
        return now.hour;
    }

    int evening() {
        if (berths.isEmpty()) {
            return NOT;
        }
        remember();
        int were = Integer.bitCount(setOf(now.awake));
        now = newEvening();
        return were;
    }

    private int draw(int n) {
        seed = (seed * 1103515245L + 12345L) % 2147483648L;
        return (int) (seed / 65536 % n);
    }

    int drift(int n) {
        if (n < 1 || n > 12) {
            return OUTSIDE;
        }
        if (berths.isEmpty() || people.isEmpty() || now.hour == 12) {
            return NOT;
        }
        remember();
        while (n-- > 0 && now.hour < 12) {
            if (draw(5) == 0) {
                now.awake[draw(people.size())] = false;
            }
            live(now, tuned);
        }
        return now.hour;
    }

    int undo() {
        if (past.isEmpty()) {
            return NOT;
        }
        now = past.removeLast();
        return past.size();
    }

    int wake() {
        return morning(now, tuned);
    }

    int shunted(int what) {
        if (what != 0 && what != 1) {
            return OUTSIDE;
        }
        for (World w = now.copy(); w.hour < 12; live(w, tuned)) {
            for (int k = 0; k < berths.size(); k++) {
                if (outOfTune(w, k, w.hour)) {
                    return what == 0 ? w.hour : k;
                }
            }
        }
        return NONE;
    }

    /** All ways to put all into cars, the first sleeper's car counting most: each lived through. */
    int madeUp(int s) {
        if (s != NONE && noOne(s)) {
            return UNKNOWN;
        }
        int n = people.size();
        long ways = 1;
        for (int i = 0; i < n; i++) {
            ways *= berths.size();
        }
        World best = null;
        int fewest = Integer.MAX_VALUE;
        for (long way = 0; way < ways; way++) {
            World w = newEvening();
            long rest = way;
            for (int i = n - 1; i >= 0; i--) {
                w.car[i] = (int) (rest % berths.size());
                rest /= berths.size();
            }
            if (mayBe(w)) {
                int woken = Integer.bitCount(morning(w, tuned));
                if (woken < fewest) {
                    fewest = woken;
                    best = w;
                }
            }
        }
        return best == null ? NONE : s == NONE ? fewest : best.car[s];
    }

    private boolean mayBe(World w) {
        for (int k = 0; k < berths.size(); k++) {
            if (Integer.bitCount(crew(w, k)) > berths.get(k)) {
                return false;
            }
        }
        return couples.stream().allMatch(c -> w.car[c[0]] == w.car[c[1]]);
    }

    int moves(int i) {
        if (i < NONE) {
            return NONE;
        }
        int[] found = findMoves();
        if (i == NONE) {
            return found == null ? NONE : found.length;
        }
        return found == null || i >= found.length ? NONE : found[i];
    }

    private int[] findMoves() {
        if (quiet(now)) {
            return new int[0];
        }
        for (int a = 0; a < 200; a++) {
            World w = moved(now, a);
            if (w != null && quiet(w)) {
                return new int[] {a};
            }
        }
        for (int a = 0; a < 200; a++) {
            World w = moved(now, a);
            for (int b = 0; w != null && b < 200; b++) {
                World v = moved(w, b);
                if (v != null && quiet(v)) {
                    return new int[] {a, b};
                }
            }
        }
        return null;
    }

    private boolean quiet(World w) {
        return morning(w, tuned) == setOf(now.awake);
    }

    private World moved(World from, int number) {
        World w = from.copy();
        int tens = number % 100 / 10;
        int ones = number % 10;
        if (noOne(tens) || w.car[tens] == NONE) {
            return null;
        }
        if (number < 100) {
            if (noCar(ones) || w.car[tens] == ones || !hasRoom(w, ones)) {
                return null;
            }
            w.car[tens] = ones;
            return w;
        }
        if (noOne(ones) || tens >= ones || w.car[ones] == NONE || w.car[ones] == w.car[tens]) {
            return null;
        }
        int kept = w.car[ones];
        w.car[ones] = w.car[tens];
        w.car[tens] = kept;
        return w;
    }

    int laws(int set, int what) {
        if (noSet(set)) {
            return UNKNOWN;
        }
        if (what != 0 && what != 1) {
            return OUTSIDE;
        }
        List<Integer> fits = new ArrayList<>();
        for (int l = 0; l < 128; l++) {
            if (morning(newEvening(), law(l)) == set) {
                fits.add(l);
            }
        }
        if (what == 0) {
            return fits.size();
        }
        return fits.stream().min((x, y) -> Integer.bitCount(x) != Integer.bitCount(y)
            ? Integer.bitCount(x) - Integer.bitCount(y) : x - y).orElse(NONE);
    }

    int pitches(int s, int set, int what) {
        if (noOne(s) || noSet(set)) {
            return UNKNOWN;
        }
        if (what != 0 && what != 1) {
            return OUTSIDE;
        }
        List<Integer> fits = new ArrayList<>();
        int was = people.get(s)[0];
        int bits = 0;
        for (int p = 0; p < 12; p++) {
            people.get(s)[0] = p;
            if (morning(newEvening(), tuned) == set) {
                fits.add(p);
                bits += 1 << p;
            }
        }
        people.get(s)[0] = was;
        if (what == 0) {
            return bits;
        }
        if (fits.size() < 2) {
            return NONE;
        }
        int low = fits.get(0);
        int high = fits.get(fits.size() - 1);
        for (int t = 0; t < 12; t++) {
            if (tuned[distance(t, low)] ^ tuned[distance(t, high)]) {
                return t;
            }
        }
        return NONE;
    }

    int bestCar(int s, int what) {
        if (noOne(s)) {
            return UNKNOWN;
        }
        if (what != 0 && what != 1) {
            return OUTSIDE;
        }
        List<int[]> all = new ArrayList<>();
        for (int k = 0; k < berths.size(); k++) {
            World w = newEvening();
            w.car[s] = NONE;
            if (hasRoom(w, k)) {
                w.car[s] = k;
                all.add(new int[] {Integer.bitCount(morning(w, tuned)), k});
            }
        }
        if (all.isEmpty()) {
            return NONE;
        }
        all.sort((x, y) -> x[0] != y[0] ? x[0] - y[0] : x[1] - y[1]);
        return what == 0 ? all.get(0)[1] : all.get(all.size() - 1)[0] - all.get(0)[0];
    }

    private int[] pitchesIn(int k, int d) {
        List<Integer> in = new ArrayList<>();
        for (int s = 0; s < people.size(); s++) {
            if (now.car[s] == k) {
                in.add((people.get(s)[0] + d) % 12);
            }
        }
        return in.stream().mapToInt(Integer::intValue).sorted().toArray();
    }

    int alike(int a, int b) {
        if (noCar(a) || noCar(b) || a == b) {
            return UNKNOWN;
        }
        for (int d = 0; d < 12; d++) {
            if (Arrays.equals(pitchesIn(a, 0), pitchesIn(b, d))) {
                return d;
            }
        }
        return NONE;
    }

    int sounds(int k, int h, int what) {
        if (noCar(k)) {
            return UNKNOWN;
        }
        if (h < 0 || h > 11 || what < 0 || what > 2) {
            return OUTSIDE;
        }
        int set = 0;
        int loud = 0;
        int bass = NONE;
        for (int s = 0; s < people.size(); s++) {
            if (now.car[s] == k && snores(now, s, h)) {
                int p = people.get(s)[0];
                set |= 1 << p;
                loud += people.get(s)[1];
                bass = bass == NONE ? p : Math.min(bass, p);
            }
        }
        return what == 0 ? set : what == 1 ? loud : bass;
    }

    int cold(int set, int q) {
        if (noSet(set)) {
            return UNKNOWN;
        }
        if (q < 0 || q > 100) {
            return OUTSIDE;
        }
        long odds = 1000000000;
        for (int i = Integer.bitCount(set); i > 0; i--) {
            odds = odds * (100 - q) / 100;
        }
        return (int) odds;
    }

    int write(int s, boolean awake) {
        if (noOne(s)) {
            return UNKNOWN;
        }
        if (book.size() == 15) {
            return FULL;
        }
        book.add(new int[] {s, awake ? 1 : 0});
        return book.size();
    }

    int tear() {
        int had = book.size();
        book.clear();
        return had;
    }

    int judge() {
        int woken = wake();
        for (int e = 0; e < book.size(); e++) {
            if ((woken >> book.get(e)[0]) % 2 != book.get(e)[1]) {
                return e;
            }
        }
        return NONE;
    }

    int seed(int v) {
        if (v < 0) {
            return OUTSIDE;
        }
        int was = (int) seed;
        seed = v;
        return was;
    }

    int keep(int i) {
        if (i != 0 && i != 1) {
            return UNKNOWN;
        }
        images[i] = now.copy();
        imageSeeds[i] = (int) seed;
        past.clear();
        return 1;
    }

    int goBack(int i) {
        if (i != 0 && i != 1) {
            return UNKNOWN;
        }
        if (images[i] == null) {
            return NOT;
        }
        now = images[i].copy();
        seed = imageSeeds[i];
        past.clear();
        return 1;
    }
}
