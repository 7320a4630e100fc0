import java.util.ArrayList;
import java.util.Collections;
import java.util.List;
import java.util.Random;

/** Runs of calls by draws, on the program and on the oracle: every answer has to be the same. */
public final class FuzzTests {
    private static final int RUNS = 1500, TEXTS = 40000, MOST_CALLS = 512;
    private static final String LETTERS = "ksic,;  0123456789x";

    private static final Checks checks = new Checks("FuzzTests");

    private final Random random;
    private SnoreCars program;
    private Oracle oracle;
    private StringBuilder log;
    private int calls;
    private boolean isWrong;

    private FuzzTests(long seed) {
        random = new Random(seed);
        renew();
    }

    public static void main(String[] args) {
        FuzzTests texts = new FuzzTests(4);
        for (int n = 0; n < TEXTS && !texts.isWrong; n++) {
            texts.readText();
        }
        for (int n = 0; n < RUNS && checks.allRight(); n++) {
            new FuzzTests(n).run();
        }
        checks.end();
    }

    private void renew() {
        program = new SnoreCars();
        oracle = new Oracle();
        log = new StringBuilder();
        calls = 0;
    }

    private int below(int n) {
        return random.nextInt(n);
    }

    private void compare(String call, int got, int due) {
        calls++;
        log.append(call).append(" = ").append(got).append('\n');
        if (got != due && !isWrong) {
            isWrong = true;
            System.out.println(log);
        }
        checks.same(call, got, due);
    }

    private void feed(String text) {
        log.append("text: ").append(text).append('\n');
        for (int i = 0; i < text.length(); i++) {
            compare("feed", program.feed(text.charAt(i)), oracle.feed(text.charAt(i)));
        }
    }

    /** A text with some letters changed; what it tells is looked at, too. */
    private void readText() {
        if (calls > 150) {
            renew();
        }
        StringBuilder text = new StringBuilder(trainText(below(4) == 0));
        for (int n = below(4); n > 0 && text.length() > 0; n--) {
            int at = below(text.length());
            char letter = LETTERS.charAt(below(LETTERS.length()));
            switch (below(4)) {
                case 0 -> text.insert(at, letter);
                case 1 -> text.deleteCharAt(at);
                case 2 -> text.setCharAt(at, letter);
                default -> repeatClause(text, at);
            }
        }
        feed(text.toString());
        compare("train", program.train(), oracle.train());
        compare("fault", program.fault(), oracle.fault());
        for (int what = 0; what < 10; what++) {
            compare("told", program.told(what), oracle.told(what));
        }
        int s = below(8);
        for (int what = 0; what < 9; what++) {
            compare("sleeper", program.sleeper(s, what), oracle.sleeper(s, what));
        }
        int k = below(4);
        compare("car", program.car(k, 0), oracle.car(k, 0));
    }

    /** One clause of the text once more at its end; or the text is cut there. */
    private void repeatClause(StringBuilder text, int at) {
        if (below(8) == 0) {
            text.setLength(at);
            return;
        }
        String[] clauses = text.toString().split(";");
        if (clauses.length > 0) {
            text.append(clauses[below(clauses.length)]).append(';');
        }
    }

    private String trainText(boolean isLong) {
        StringBuilder text = new StringBuilder("k").append(1 + below(8));
        for (int k = below(4); k > 0; k--) {
            text.append(blank()).append(',').append(blank()).append(1 + below(isLong ? 8 : 4));
        }
        text.append(';');
        int sleepers = below(isLong ? 10 : 7);
        boolean isLawFirst = below(2) == 0;
        if (isLawFirst) {
            appendLaw(text);
        }
        int quiet = 1 + below(20);
        for (int s = 0; s < sleepers; s++) {
            int from = below(13);
            int to = below(3) == 0 ? 12 : from + below(13 - from);
            text.append(blank()).append('s').append(below(12)).append(' ').append(below(10)).append(' ')
                .append(below(quiet)).append(' ').append(from).append(' ').append(to).append(blank()).append(';');
        }
        appendCouples(text, sleepers);
        if (!isLawFirst && below(3) > 0) {
            appendLaw(text);
        }
        return text.toString();
    }

    private void appendCouples(StringBuilder text, int sleepers) {
        List<Integer> free = new ArrayList<>();
        for (int s = 0; s < sleepers; s++) {
            free.add(s);
        }
        Collections.shuffle(free, random);
        for (int c = below(sleepers / 2 + 1); c > 0 && below(3) > 0; c--) {
            int a = free.remove(free.size() - 1);
            int b = below(30) == 0 ? below(sleepers) : free.remove(free.size() - 1);
            text.append('c').append(blank()).append(a).append(' ').append(b).append(blank()).append(';');
        }
    }

    private void appendLaw(StringBuilder text) {
        int law = below(3) == 0 ? 1 << below(7) : below(128);
        char sign = 'i';
        for (int i = 0; i < 7; i++) {
            if ((law >> i) % 2 == 1) {
                text.append(sign).append(blank()).append(i);
                sign = ',';
            }
        }
        text.append(law == 0 ? "" : ";");
    }

    private String blank() {
        return below(20) == 0 ? " " : "";
    }

    private void run() {
        if (below(10) > 0) {
            feed(trainText(below(4) == 0));
            compare("train", program.train(), oracle.train());
            compare("fault", program.fault(), oracle.fault());
            int crowd = below(3) == 0 ? 1 : 4;
            for (int s = 0; s < 8; s++) {
                put(s, below(crowd));
            }
        }
        int asked = 30 + below(200);
        for (int n = 0; n < asked && calls < MOST_CALLS - 1 && !isWrong; n++) {
            if (below(5) < 2) {
                act();
            } else if (below(3) < 2) {
                ask();
            } else {
                tryOut();
            }
        }
        if (calls < 200) {
            feed(trainText(false));
            compare("train", program.train(), oracle.train());
            for (int n = 0; n < 60 && !isWrong; n++) {
                act();
                tryOut();
                ask();
            }
        }
    }

    private int some(int n) {
        int[] odd = {-1, -2, n, n + 1, Integer.MIN_VALUE, Integer.MAX_VALUE, 31, 32, 64};
        return below(25) == 0 ? odd[below(odd.length)] : below(Math.max(n, 1));
    }

    /** Mostly one that there is. */
    private int who() {
        return some(oracle.told(1));
    }

    private int which() {
        return some(oracle.told(0));
    }

    private int set() {
        return below(3) == 0 ? oracle.wake() : some(1 << oracle.told(1));
    }

    private void put(int s, int k) {
        compare("put(" + s + ", " + k + ")", program.put(s, k), oracle.put(s, k));
    }

    private void act() {
        int n = below(6) == 0 ? some(13) : 1 + below(3);
        switch (below(12)) {
            case 0, 1, 2, 3 -> put(who(), which());
            case 4 -> {
                int s = who();
                compare("off(" + s + ")", program.off(s), oracle.off(s));
            }
            case 5 -> compare("hour(" + n + ")", program.hour(n), oracle.hour(n));
            case 6 -> compare("evening", program.evening(), oracle.evening());
            case 7, 8 -> compare("drift(" + n + ")", program.drift(n), oracle.drift(n));
            case 9 -> compare("undo", program.undo(), oracle.undo());
            case 10 -> {
                int v = below(3) == 0 ? some(13) : random.nextInt();
                compare("seed(" + v + ")", program.seed(v), oracle.seed(v));
            }
            default -> {
                int i = some(2);
                if (below(2) == 0) {
                    compare("keep(" + i + ")", program.keep(i), oracle.keep(i));
                } else {
                    compare("goBack(" + i + ")", program.goBack(i), oracle.goBack(i));
                }
            }
        }
    }

    private void ask() {
        int s = who();
        int k = which();
        switch (below(10)) {
            case 0 -> {
                int what = some(10);
                compare("told(" + what + ")", program.told(what), oracle.told(what));
            }
            case 1 -> {
                int what = some(3);
                compare("car(" + k + ", " + what + ")", program.car(k, what), oracle.car(k, what));
            }
            case 2 -> {
                int what = some(9);
                compare("sleeper(" + s + ", " + what + ")", program.sleeper(s, what), oracle.sleeper(s, what));
            }
            case 3 -> compare("sleeper(" + s + ", 8)", program.sleeper(s, 8), oracle.sleeper(s, 8));
            case 4 -> {
                int t = who();
                compare("interval(" + s + ", " + t + ")", program.interval(s, t), oracle.interval(s, t));
            }
            case 5 -> {
                boolean awake = (oracle.wake() >> s & 1) == (below(8) == 0 ? 0 : 1);
                compare("write(" + s + ", " + awake + ")", program.write(s, awake), oracle.write(s, awake));
            }
            case 6 -> compare("judge", program.judge(), oracle.judge());
            case 7 -> {
                if (below(4) == 0) {
                    compare("tear", program.tear(), oracle.tear());
                }
            }
            case 8 -> {
                int h = some(12);
                int what = some(3);
                compare("sounds(" + k + ", " + h + ", " + what + ")", program.sounds(k, h, what),
                    oracle.sounds(k, h, what));
            }
            default -> {
                int l = which();
                compare("alike(" + k + ", " + l + ")", program.alike(k, l), oracle.alike(k, l));
            }
        }
    }

    private void tryOut() {
        int s = who();
        int what = some(2);
        int set = set();
        switch (below(10)) {
            case 0 -> compare("wake", program.wake(), oracle.wake());
            case 1 -> compare("shunted(" + what + ")", program.shunted(what), oracle.shunted(what));
            case 2 -> {
                if (Math.pow(oracle.told(0), oracle.told(1)) < (below(12) == 0 ? 70000 : 800)) {
                    int i = below(2) == 0 ? -1 : s;
                    compare("madeUp(" + i + ")", program.madeUp(i), oracle.madeUp(i));
                }
            }
            case 3, 4 -> {
                for (int i = -2; i < 3; i++) {
                    compare("moves(" + i + ")", program.moves(i), oracle.moves(i));
                }
            }
            case 5 -> compare("laws(" + set + ", " + what + ")", program.laws(set, what), oracle.laws(set, what));
            case 6, 7 -> compare("pitches(" + s + ", " + set + ", " + what + ")", program.pitches(s, set, what),
                oracle.pitches(s, set, what));
            case 8 -> compare("bestCar(" + s + ", " + what + ")", program.bestCar(s, what), oracle.bestCar(s, what));
            default -> {
                int q = some(101);
                compare("cold(" + set + ", " + q + ")", program.cold(set, q), oracle.cold(set, q));
            }
        }
    }
}
