/** THE BOOK, THE SEED, IMAGES and promises 25 to 30: each sentence that names a bound, on it and just beyond it. */
public final class BoundsOfBooksTests {
    private static final int NONE = SnoreCars.NONE, UNKNOWN = SnoreCars.UNKNOWN, OUTSIDE = SnoreCars.OUTSIDE;
    private static final int NOT = SnoreCars.NOT, FULL = SnoreCars.FULL;
    private static final int LOWEST = Integer.MIN_VALUE, HIGHEST = Integer.MAX_VALUE;
    private static final int[] ODD = {-1, LOWEST, HIGHEST, 1 << 20};
    /** 1 is woken by 0 at hour 2, if they lie together then. */
    private static final String WOKEN = "k2;s0 9 40 2 3;s1 0 8 0 0;";

    private static final Checks checks = new Checks("BoundsOfBooksTests");

    private BoundsOfBooksTests() {
    }

    public static void main(String[] args) {
        fifteenEntries();
        writeOfWhom();
        tear();
        firstWrongEntry();
        judgedFromNowOn();
        bookStays();
        seed();
        seedIsDrawnFrom();
        twoImages();
        whatAnImageKeeps();
        notKept();
        nothingCanBeUndone();
        undoneBehindAnImage();
        imagesStay();
        checks.end();
    }

    private static void same(String what, long got, long due) {
        checks.same(what, got, due);
    }

    private static SnoreCars of(String text, int... cars) {
        return Trains.lying(Trains.of(text), cars);
    }

    private static void fifteenEntries() {
        checks.sentence("THE BOOK (15 at most); An entry behind THE BOOK: how many. FULL (15)");
        SnoreCars x = of("k8;" + Trains.sleepers(8));
        for (int n = 1; n <= 15; n++) {
            same("entry " + n, x.write(n % 8, false), n);
            same("entries", x.told(8), n);
        }
        same("entry 16", x.write(0, true), FULL);
        same("once more", x.write(7, false), FULL);
        same("entries", x.told(8), 15);
        same("what is refused is not judged", x.judge(), NONE);
        same("tear()", x.tear(), 15);
        same("the first one again", x.write(0, true), 1);
    }

    private static void writeOfWhom() {
        checks.sentence("An entry behind THE BOOK: how many. UNKNOWN");
        for (int many = 0; many <= 8; many++) {
            SnoreCars x = of("k1;" + Trains.sleepers(many));
            same("of one more than " + many, x.write(many, true), UNKNOWN);
            same("of the last of " + many, x.write(many - 1, true), many == 0 ? UNKNOWN : 1);
            for (int odd : ODD) {
                same("of " + odd, x.write(odd, false), UNKNOWN);
            }
        }
        same("without cars", new SnoreCars().write(0, true), UNKNOWN);
    }

    private static void tear() {
        checks.sentence("THE BOOK is empty: how many entries it had");
        for (int many = 0; many <= 15; many++) {
            SnoreCars x = of(WOKEN);
            for (int n = 0; n < many; n++) {
                x.write(0, true);
            }
            same("judged", x.judge(), many == 0 ? NONE : 0);
            same("tear()", x.tear(), many);
            same("entries", x.told(8), 0);
            same("nothing is wrong", x.judge(), NONE);
            same("tear() again", x.tear(), 0);
        }
    }

    private static void firstWrongEntry() {
        checks.sentence("WRONG: the first that is otherwise; NONE");
        for (int wrong = 0; wrong <= 15; wrong++) {
            SnoreCars x = of(WOKEN, 0, 0);
            for (int n = 0; n < 15; n++) {
                boolean isTrue = n < wrong;
                same("write", x.write(n % 2, (n % 2 == 1) == isTrue), n + 1);
            }
            same("from entry " + wrong + " on all are wrong", x.judge(), wrong == 15 ? NONE : wrong);
        }
        for (int right = 0; right < 15; right++) {
            SnoreCars x = of(WOKEN, 0, 0);
            for (int n = 0; n < 15; n++) {
                x.write(n == right ? 1 : 0, n == right);
            }
            same("entry " + right + " tells of 1, the others of 0", x.judge(), NONE);
            x.off(1);
            same("that entry alone is wrong", x.judge(), right);
        }
        SnoreCars both = of("k7,1;" + Trains.sleepers(6) + "s0 9 40 0 12;s1 0 8 0 0;", 0, 0, 0, 0, 0, 0, 0, 1);
        both.write(7, true);
        both.write(7, false);
        same("bit 7, not awake", both.judge(), 0);
        both.off(0);
        both.put(7, 0);
        same("bit 7, awake", both.judge(), 1);
    }

    private static void judgedFromNowOn() {
        checks.sentence("who is AWAKE in the morning, all staying where they are");
        SnoreCars x = of(WOKEN, 0, 0);
        x.write(1, true);
        x.hour(2);
        same("at hour 2 it is still to come", x.judge(), NONE);
        x.off(1);
        same("on the platform it will not be", x.judge(), 0);
        x.hour(1);
        x.put(1, 0);
        same("the hour is past", x.judge(), 0);
        x.evening();
        same("a new evening", x.judge(), NONE);
        x.hour(12);
        same("in the morning", x.judge(), NONE);
        x.off(1);
        same("awake on the platform", x.judge(), NONE);
        x.evening();
        same("not awake on the platform", x.judge(), 0);
    }

    private static void bookStays() {
        checks.sentence("THE BOOK (no CARS, AWAKE, HOUR: undo(), evening(), goBack() leave it)");
        SnoreCars x = of(WOKEN, 0, 0);
        x.write(0, true);
        x.keep(0);
        x.write(1, true);
        x.hour(1);
        x.write(0, false);
        same("undo()", x.undo(), 0);
        same("entries", x.told(8), 3);
        x.evening();
        same("entries", x.told(8), 3);
        same("goBack(0)", x.goBack(0), 1);
        same("entries", x.told(8), 3);
        x.tear();
        x.goBack(0);
        same("none", x.told(8), 0);
    }

    private static void seed() {
        checks.sentence("THE SEED (0 at first) becomes v (0 .. 2147483647): what it was. OUTSIDE");
        SnoreCars x = new SnoreCars();
        same("0 at first", x.seed(2147483647), 0);
        same("2147483647", x.seed(-1), OUTSIDE);
        same("-1 is refused", x.seed(LOWEST), OUTSIDE);
        same("lowest is refused", x.seed(0), 2147483647);
        same("0", x.seed(1), 0);
        same("1", x.seed(0), 1);
    }

    private static void seedIsDrawnFrom() {
        checks.sentence("(left over by 2 to the 31): THE SEED stays from 0 to 2147483647");
        int[] seeds = {0, 1, 2, 1073741823, 1073741824, 2147483646, 2147483647};
        for (int seed : seeds) {
            SnoreCars x = of("k1;s0 0 0 0 0;");
            x.seed(seed);
            x.drift(1);
            long once = (seed * 1103515245L + 12345L) % 2147483648L;
            long due = once / 65536 % 5 == 0 ? (once * 1103515245L + 12345L) % 2147483648L : once;
            same("behind " + seed, x.seed(0), due);
        }
    }

    private static void twoImages() {
        checks.sentence("IMAGES 0, 1; IMAGE i becomes what is so: 1. UNKNOWN");
        SnoreCars x = of(WOKEN);
        same("keep(0)", x.keep(0), 1);
        same("keep(1)", x.keep(1), 1);
        same("keep(2)", x.keep(2), UNKNOWN);
        same("goBack(0)", x.goBack(0), 1);
        same("goBack(1)", x.goBack(1), 1);
        same("goBack(2)", x.goBack(2), UNKNOWN);
        for (int odd : ODD) {
            same("keep(" + odd + ")", x.keep(odd), UNKNOWN);
            same("goBack(" + odd + ")", x.goBack(odd), UNKNOWN);
        }
        same("without cars", new SnoreCars().keep(1), 1);
    }

    private static void whatAnImageKeeps() {
        checks.sentence("keep who is in which CAR, AWAKE, the HOUR, THE SEED; What is so becomes IMAGE i");
        String text = "k2,1,2,3;s0 9 40 0 12;s1 0 8 0 0;s0 0 0 0 0;s0 0 0 0 0;s0 0 0 0 0;s0 0 0 0 0;s0 0 0 0 0;s0 0 0 0 0;";
        SnoreCars x = of(text, 0, 0, 1, 2, 2, 3, NONE, 3);
        x.seed(2147483647);
        x.hour(11);
        x.keep(1);
        x.evening();
        x.put(6, 3);
        x.off(7);
        x.off(1);
        x.put(2, 0);
        x.seed(5);
        x.keep(0);
        for (int i = 1; i >= 0; i--) {
            same("goBack(" + i + ")", x.goBack(i), 1);
            int[] cars = i == 1 ? new int[] {3, 4, 24, 160} : new int[] {5, 0, 24, 96};
            for (int k = 0; k < cars.length; k++) {
                same("image " + i + ", car " + k, x.car(k, 1), cars[k]);
            }
            same("platform", x.told(7), i == 1 ? 64 : 2 + 128);
            same("awake", x.told(6), i == 1 ? 2 : 0);
            same("hour", x.told(5), i == 1 ? 11 : 0);
            same("seed", x.seed(77), i == 1 ? 2147483647 : 5);
        }
        x.goBack(1);
        same("the last hour from there", x.hour(1), 12);
    }

    private static void notKept() {
        checks.sentence("goBack: NOT: it was not kept (IMAGES are gone by train())");
        SnoreCars x = of(WOKEN);
        same("neither", x.goBack(0), NOT);
        same("neither", x.goBack(1), NOT);
        x.keep(0);
        same("0 alone", x.goBack(1), NOT);
        same("0", x.goBack(0), 1);
        Trains.feed(x, WOKEN);
        x.train();
        same("0 is gone", x.goBack(0), NOT);
        x.keep(1);
        same("1 alone", x.goBack(0), NOT);
        same("1", x.goBack(1), 1);
        Trains.feed(x, "k");
        x.train();
        same("a fault leaves it", x.goBack(1), 1);
        x.train();
        same("an empty text does not", x.goBack(1), NOT);
        same("without cars", new SnoreCars().goBack(0), NOT);
    }

    private static void nothingCanBeUndone() {
        checks.sentence("(nothing can be undone then)");
        SnoreCars x = of(WOKEN, 0, 0);
        x.keep(0);
        same("behind keep()", x.told(9), 0);
        same("behind keep()", x.undo(), NOT);
        x.hour(1);
        x.off(0);
        same("two", x.told(9), 2);
        x.goBack(0);
        same("behind goBack()", x.told(9), 0);
        same("behind goBack()", x.undo(), NOT);
        x.hour(1);
        same("one anew", x.told(9), 1);
        same("undone", x.undo(), 0);
        same("the hour", x.told(5), 0);
        x.off(1);
        same("goBack(1), not kept", x.goBack(1), NOT);
        same("keep(2)", x.keep(2), UNKNOWN);
        same("what is refused leaves it", x.told(9), 1);
    }

    private static void undoneBehindAnImage() {
        checks.sentence("(nothing can be undone then; from then on 20 at most are kept)");
        for (int before = 0; before <= 45; before += 3) {
            SnoreCars x = of("k1;");
            for (int n = 0; n < before; n++) {
                x.evening();
            }
            x.keep(0);
            x.hour(1);
            x.goBack(0);
            for (int n = 1; n <= 25; n++) {
                same("done behind " + before, n == 13 ? x.evening() : x.hour(1), n % 13);
                same("kept", x.told(9), Math.min(n, 20));
            }
            for (int n = 19; n >= 0; n--) {
                same("undo() behind " + before, x.undo(), n);
                same("the hour", x.told(5), (n + 5) % 13);
            }
            same("nothing more", x.undo(), NOT);
        }
    }

    private static void imagesStay() {
        checks.sentence("images to go on from (an IMAGE stays as it was kept until it is kept anew)");
        SnoreCars x = of(WOKEN, 0);
        x.keep(0);
        x.hour(4);
        x.goBack(0);
        x.hour(5);
        same("goBack(0) again", x.goBack(0), 1);
        same("its hour", x.told(5), 0);
        x.hour(7);
        x.keep(0);
        x.evening();
        x.goBack(0);
        same("kept anew", x.told(5), 7);
    }
}
