import java.util.ArrayList;
import java.util.List;
import java.util.function.Supplier;
import java.util.function.ToIntFunction;

/**
 * "REFUSALS, of several the first in this order: UNKNOWN, OUTSIDE, NOT, FULL. What is refused changes
 * nothing": each refused call on an object, and the same object without it told apart by nothing.
 */
public final class RefusalTests {
    private static final int NONE = SnoreCars.NONE, UNKNOWN = SnoreCars.UNKNOWN, OUTSIDE = SnoreCars.OUTSIDE;
    private static final int NOT = SnoreCars.NOT, FULL = SnoreCars.FULL;

    private static final Checks checks = new Checks("RefusalTests");

    private record Refused(String call, int due, Supplier<SnoreCars> state, ToIntFunction<SnoreCars> asked) {
    }

    private final List<Refused> all = new ArrayList<>();

    private RefusalTests() {
    }

    public static void main(String[] args) {
        numbers();
        RefusalTests tests = new RefusalTests();
        tests.unknown();
        tests.unknownAheadOfOthers();
        tests.outside();
        tests.outsideAheadOfOthers();
        tests.notNow();
        tests.full();
        for (Refused one : tests.all) {
            check(one);
        }
        checks.end();
    }

    private static void numbers() {
        checks.sentence("NONE is -1; they are far below all that is counted: -1000000001 and on");
        checks.same("NONE", NONE, -1);
        checks.same("UNKNOWN", UNKNOWN, -1000000001);
        checks.same("OUTSIDE", OUTSIDE, -1000000002);
        checks.same("NOT", NOT, -1000000003);
        checks.same("FULL", FULL, -1000000004);
    }

    /** Two cars, the first one full, three sleepers, hour 3, one awake, three to undo, an image, an entry, a text. */
    private static SnoreCars night() {
        SnoreCars x = Trains.of("k1,2;s0 9 40 0 12;s2 9 8 0 0;s4 5 3 4 8;c0 1;i1,4;");
        x.seed(31);
        x.put(2, 0);
        x.keep(0);
        x.put(0, 1);
        x.put(1, 1);
        x.hour(3);
        x.write(1, true);
        return Trains.feed(x, "k2;");
    }

    private static SnoreCars morning() {
        SnoreCars x = night();
        x.hour(12);
        return x;
    }

    private static SnoreCars withoutSleepers() {
        return Trains.feed(Trains.of("k1,2;"), "k");
    }

    private static SnoreCars withoutCars() {
        SnoreCars x = new SnoreCars();
        x.seed(8);
        return x;
    }

    /** The book is full. */
    private static SnoreCars written() {
        SnoreCars x = night();
        for (int n = 1; n < 15; n++) {
            x.write(n % 3, n % 2 == 0);
        }
        return x;
    }

    /** The text is full. */
    private static SnoreCars fed() {
        return Trains.feed(new SnoreCars(), "k1;" + " ".repeat(237));
    }

    private void add(String call, int due, Supplier<SnoreCars> state, ToIntFunction<SnoreCars> asked) {
        all.add(new Refused(call, due, state, asked));
    }

    private void unknown() {
        int[] odd = {-1, 3, Integer.MIN_VALUE, Integer.MAX_VALUE, -2};
        for (int s : odd) {
            add("sleeper(" + s + ", 0)", UNKNOWN, RefusalTests::night, x -> x.sleeper(s, 0));
            add("interval(" + s + ", 0)", UNKNOWN, RefusalTests::night, x -> x.interval(s, 0));
            add("interval(0, " + s + ")", UNKNOWN, RefusalTests::night, x -> x.interval(0, s));
            add("put(" + s + ", 1)", UNKNOWN, RefusalTests::night, x -> x.put(s, 1));
            add("put(0, " + s + ")", UNKNOWN, RefusalTests::night, x -> x.put(0, s));
            add("off(" + s + ")", UNKNOWN, RefusalTests::night, x -> x.off(s));
            add("car(" + s + ", 0)", UNKNOWN, RefusalTests::night, x -> x.car(s, 0));
            add("alike(" + s + ", 0)", UNKNOWN, RefusalTests::night, x -> x.alike(s, 0));
            add("alike(0, " + s + ")", UNKNOWN, RefusalTests::night, x -> x.alike(0, s));
            add("sounds(" + s + ", 0, 0)", UNKNOWN, RefusalTests::night, x -> x.sounds(s, 0, 0));
            add("pitches(" + s + ", 0, 0)", UNKNOWN, RefusalTests::night, x -> x.pitches(s, 0, 0));
            add("bestCar(" + s + ", 0)", UNKNOWN, RefusalTests::night, x -> x.bestCar(s, 0));
            add("write(" + s + ", true)", UNKNOWN, RefusalTests::night, x -> x.write(s, true));
            add("keep(" + s + ")", UNKNOWN, RefusalTests::night, x -> x.keep(s));
            add("goBack(" + s + ")", UNKNOWN, RefusalTests::night, x -> x.goBack(s));
            if (s != NONE) {
                add("madeUp(" + s + ")", UNKNOWN, RefusalTests::night, x -> x.madeUp(s));
            }
        }
        int[] sets = {8, 9, 15, 256, -1, -8, Integer.MIN_VALUE};
        for (int set : sets) {
            add("laws(" + set + ", 0)", UNKNOWN, RefusalTests::night, x -> x.laws(set, 0));
            add("pitches(0, " + set + ", 0)", UNKNOWN, RefusalTests::night, x -> x.pitches(0, set, 0));
            add("cold(" + set + ", 0)", UNKNOWN, RefusalTests::night, x -> x.cold(set, 0));
        }
        add("car(2, 0)", UNKNOWN, RefusalTests::night, x -> x.car(2, 0));
        add("put(0, 2)", UNKNOWN, RefusalTests::night, x -> x.put(0, 2));
        add("alike(0, 2)", UNKNOWN, RefusalTests::night, x -> x.alike(0, 2));
        add("sounds(2, 0, 0)", UNKNOWN, RefusalTests::night, x -> x.sounds(2, 0, 0));
        add("keep(2)", UNKNOWN, RefusalTests::night, x -> x.keep(2));
        add("goBack(2)", UNKNOWN, RefusalTests::night, x -> x.goBack(2));
        add("interval(1, 1), one twice", UNKNOWN, RefusalTests::night, x -> x.interval(1, 1));
        add("alike(1, 1), one twice", UNKNOWN, RefusalTests::night, x -> x.alike(1, 1));
    }

    private void unknownAheadOfOthers() {
        add("car(2, 3)", UNKNOWN, RefusalTests::night, x -> x.car(2, 3));
        add("sleeper(3, 9)", UNKNOWN, RefusalTests::night, x -> x.sleeper(3, 9));
        add("laws(8, 2)", UNKNOWN, RefusalTests::night, x -> x.laws(8, 2));
        add("pitches(3, 0, 2)", UNKNOWN, RefusalTests::night, x -> x.pitches(3, 0, 2));
        add("pitches(0, 8, 2)", UNKNOWN, RefusalTests::night, x -> x.pitches(0, 8, 2));
        add("bestCar(3, 2)", UNKNOWN, RefusalTests::night, x -> x.bestCar(3, 2));
        add("sounds(2, 12, 0)", UNKNOWN, RefusalTests::night, x -> x.sounds(2, 12, 0));
        add("sounds(2, 0, 3)", UNKNOWN, RefusalTests::night, x -> x.sounds(2, 0, 3));
        add("cold(8, 101)", UNKNOWN, RefusalTests::night, x -> x.cold(8, 101));
        add("put(3, 0), full", UNKNOWN, RefusalTests::night, x -> x.put(3, 0));
        add("write(3), full", UNKNOWN, RefusalTests::written, x -> x.write(3, true));
        add("goBack(2), not kept", UNKNOWN, RefusalTests::night, x -> x.goBack(2));
        add("put() without cars", UNKNOWN, RefusalTests::withoutCars, x -> x.put(0, 0));
        add("off() without cars", UNKNOWN, RefusalTests::withoutCars, x -> x.off(0));
        add("alike(0, 0) without cars", UNKNOWN, RefusalTests::withoutCars, x -> x.alike(0, 0));
        add("laws(1, 9) without sleepers", UNKNOWN, RefusalTests::withoutSleepers, x -> x.laws(1, 9));
        add("bestCar(0, 9) without sleepers", UNKNOWN, RefusalTests::withoutSleepers, x -> x.bestCar(0, 9));
    }

    private void outside() {
        int[] odd = {-1, Integer.MIN_VALUE, Integer.MAX_VALUE, 1000, 256};
        for (int v : odd) {
            add("feed(" + v + ")", OUTSIDE, RefusalTests::night, x -> x.feed(v));
            add("cold(7, " + v + ")", OUTSIDE, RefusalTests::night, x -> x.cold(7, v));
            add("hour(" + v + ")", OUTSIDE, RefusalTests::night, x -> x.hour(v));
            add("drift(" + v + ")", OUTSIDE, RefusalTests::night, x -> x.drift(v));
            add("sounds(0, " + v + ", 0)", OUTSIDE, RefusalTests::night, x -> x.sounds(0, v, 0));
            add("told(" + v + ")", OUTSIDE, RefusalTests::night, x -> x.told(v));
            add("car(0, " + v + ")", OUTSIDE, RefusalTests::night, x -> x.car(0, v));
            add("sleeper(0, " + v + ")", OUTSIDE, RefusalTests::night, x -> x.sleeper(0, v));
            add("shunted(" + v + ")", OUTSIDE, RefusalTests::night, x -> x.shunted(v));
            add("laws(0, " + v + ")", OUTSIDE, RefusalTests::night, x -> x.laws(0, v));
            add("pitches(0, 0, " + v + ")", OUTSIDE, RefusalTests::night, x -> x.pitches(0, 0, v));
            add("bestCar(0, " + v + ")", OUTSIDE, RefusalTests::night, x -> x.bestCar(0, v));
            add("sounds(0, 0, " + v + ")", OUTSIDE, RefusalTests::night, x -> x.sounds(0, 0, v));
        }
        add("told(10)", OUTSIDE, RefusalTests::night, x -> x.told(10));
        add("car(0, 3)", OUTSIDE, RefusalTests::night, x -> x.car(0, 3));
        add("sleeper(0, 9)", OUTSIDE, RefusalTests::night, x -> x.sleeper(0, 9));
        add("shunted(2)", OUTSIDE, RefusalTests::night, x -> x.shunted(2));
        add("laws(0, 2)", OUTSIDE, RefusalTests::night, x -> x.laws(0, 2));
        add("pitches(0, 0, 2)", OUTSIDE, RefusalTests::night, x -> x.pitches(0, 0, 2));
        add("bestCar(0, 2)", OUTSIDE, RefusalTests::night, x -> x.bestCar(0, 2));
        add("sounds(0, 0, 3)", OUTSIDE, RefusalTests::night, x -> x.sounds(0, 0, 3));
        add("sounds(0, 12, 0)", OUTSIDE, RefusalTests::night, x -> x.sounds(0, 12, 0));
        add("cold(0, 101)", OUTSIDE, RefusalTests::night, x -> x.cold(0, 101));
        add("hour(0)", OUTSIDE, RefusalTests::night, x -> x.hour(0));
        add("hour(13)", OUTSIDE, RefusalTests::night, x -> x.hour(13));
        add("drift(0)", OUTSIDE, RefusalTests::night, x -> x.drift(0));
        add("drift(13)", OUTSIDE, RefusalTests::night, x -> x.drift(13));
        add("seed(-1)", OUTSIDE, RefusalTests::night, x -> x.seed(-1));
        add("seed(lowest)", OUTSIDE, RefusalTests::night, x -> x.seed(Integer.MIN_VALUE));
    }

    private void outsideAheadOfOthers() {
        add("hour(13) in the morning", OUTSIDE, RefusalTests::morning, x -> x.hour(13));
        add("drift(13) in the morning", OUTSIDE, RefusalTests::morning, x -> x.drift(13));
        add("hour(0) without cars", OUTSIDE, RefusalTests::withoutCars, x -> x.hour(0));
        add("drift(0) without cars", OUTSIDE, RefusalTests::withoutCars, x -> x.drift(0));
        add("drift(0) without sleepers", OUTSIDE, RefusalTests::withoutSleepers, x -> x.drift(0));
        add("feed(256), full", OUTSIDE, RefusalTests::fed, x -> x.feed(256));
        add("feed(-1), full", OUTSIDE, RefusalTests::fed, x -> x.feed(-1));
    }

    private void notNow() {
        add("put(0, 1), it is there", NOT, RefusalTests::night, x -> x.put(0, 1));
        add("put(2, 0), it is there and the car is full", NOT, RefusalTests::night, x -> x.put(2, 0));
        add("put(0, 0), the car is full", NOT, RefusalTests::night, x -> x.put(0, 0));
        add("hour(1) in the morning", NOT, RefusalTests::morning, x -> x.hour(1));
        add("drift(1) in the morning", NOT, RefusalTests::morning, x -> x.drift(1));
        add("hour(1) without cars", NOT, RefusalTests::withoutCars, x -> x.hour(1));
        add("drift(1) without cars", NOT, RefusalTests::withoutCars, x -> x.drift(1));
        add("drift(1) without sleepers", NOT, RefusalTests::withoutSleepers, x -> x.drift(1));
        add("evening() without cars", NOT, RefusalTests::withoutCars, x -> x.evening());
        add("undo() without cars", NOT, RefusalTests::withoutCars, x -> x.undo());
        add("undo(), none", NOT, RefusalTests::fed, x -> x.undo());
        add("goBack(1), not kept", NOT, RefusalTests::night, x -> x.goBack(1));
        add("goBack(0) without cars", NOT, RefusalTests::withoutCars, x -> x.goBack(0));
        add("off() on the platform", NOT, RefusalTests::onThePlatform, x -> x.off(1));
    }

    private static SnoreCars onThePlatform() {
        SnoreCars x = night();
        x.off(1);
        return x;
    }

    private void full() {
        add("feed('x'), full", FULL, RefusalTests::fed, x -> x.feed('x'));
        add("feed(0), full", FULL, RefusalTests::fed, x -> x.feed(0));
        add("feed(255), full", FULL, RefusalTests::fed, x -> x.feed(255));
        add("write(0, false), full", FULL, RefusalTests::written, x -> x.write(0, false));
        add("write(2, true), full", FULL, RefusalTests::written, x -> x.write(2, true));
    }

    private static void check(Refused one) {
        checks.sentence("REFUSALS, of several the first in this order: UNKNOWN, OUTSIDE, NOT, FULL");
        SnoreCars without = one.state.get();
        SnoreCars with = one.state.get();
        checks.same(one.call, one.asked.applyAsInt(with), one.due);
        checks.sentence("What is refused changes nothing");
        String due = lookedThrough(without);
        String got = lookedThrough(with);
        checks.holds(one.call + " changed something: now " + got + ", before " + due, got.equals(due));
    }

    /** All that can be told of an object, of what can be undone in it, of its images, and of its text. */
    private static String lookedThrough(SnoreCars x) {
        StringBuilder told = new StringBuilder();
        lookAt(x, told);
        told.append("\nbook: ").append(x.judge());
        for (int n = 0; n < 20 && x.undo() != NOT; n++) {
            lookAt(x, told.append("\nundone: "));
        }
        for (int i = 0; i < 2; i++) {
            told.append("\nimage: ").append(x.goBack(i));
            lookAt(x, told);
        }
        told.append("\ntrain: ").append(x.train()).append(' ').append(x.fault());
        lookAt(x, told);
        return told.toString();
    }

    private static void lookAt(SnoreCars x, StringBuilder told) {
        for (int what = 0; what < 10; what++) {
            told.append(x.told(what)).append(' ');
        }
        for (int k = 0; k < x.told(0); k++) {
            told.append("; car ").append(x.car(k, 1)).append(' ').append(x.car(k, 2));
        }
        for (int s = 0; s < x.told(1); s++) {
            told.append("; sleeper ");
            for (int what = 0; what < 9; what += what == 0 ? 5 : 1) {
                told.append(x.sleeper(s, what)).append(' ');
            }
        }
        int seed = x.seed(0);
        x.seed(Math.max(seed, 0));
        told.append("; seed ").append(seed).append(" fault ").append(x.fault());
    }
}
