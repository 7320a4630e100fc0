/** The promises of the document one by one: ordinary inputs, the edges it names, wrong inputs. */
public final class PromiseTests {
    private static final int NONE = SnoreCars.NONE, UNKNOWN = SnoreCars.UNKNOWN, OUTSIDE = SnoreCars.OUTSIDE;
    private static final int NOT = SnoreCars.NOT, FULL = SnoreCars.FULL;
    private static final int LOWEST = Integer.MIN_VALUE, HIGHEST = Integer.MAX_VALUE;
    private static final int[] ODD = {-1, LOWEST, HIGHEST, 1000};

    /** Two cars, five sleepers, one couple; the law is untold: 0, 3, 4, 5. */
    private static final String COAST =
        "k2,3;s0 6 3 0 12;s4 5 4 2 8;s6 9 5 0 3;s7 2 1 5 12;s1 8 20 1 9;c0 1;";

    private static final Checks checks = new Checks("PromiseTests");

    private PromiseTests() {
    }

    public static void main(String[] args) {
        newObject();
        feed();
        train();
        faultsOfWords();
        faultsOfNumbers();
        faultsOfOrder();
        trainChanges();
        trainAfterTrain();
        told();
        car();
        sleeper();
        interval();
        put();
        off();
        hour();
        wakingAtOnce();
        evening();
        drift();
        undo();
        wake();
        shunted();
        madeUp();
        moves();
        twoMoves();
        laws();
        pitches();
        bestCar();
        alike();
        sounds();
        cold();
        write();
        tearAndJudge();
        seed();
        keepAndGoBack();
        checks.end();
    }

    private static void same(String what, long got, long due) {
        checks.same(what, got, due);
    }

    private static SnoreCars feed(SnoreCars x, String text) {
        return Trains.feed(x, text);
    }

    private static SnoreCars of(String text) {
        return Trains.of(text);
    }

    private static SnoreCars lying(SnoreCars x, int... cars) {
        return Trains.lying(x, cars);
    }

    private static void read(String text, int answer, int place) {
        SnoreCars x = feed(new SnoreCars(), text);
        same("train() of '" + text + "'", x.train(), answer);
        same("fault() of '" + text + "'", x.fault(), place);
    }

    private static void newObject() {
        SnoreCars x = new SnoreCars();
        int[] due = {0, 0, 0, 57, 0, 0, 0, 0, 0, 0, OUTSIDE};
        for (int what = 0; what < due.length; what++) {
            same("new told(" + what + ")", x.told(what), due[what]);
        }
        same("new car", x.car(0, 0), UNKNOWN);
        same("new sleeper", x.sleeper(0, 0), UNKNOWN);
        same("new interval", x.interval(0, 1), UNKNOWN);
        same("new put", x.put(0, 0), UNKNOWN);
        same("new off", x.off(0), UNKNOWN);
        same("new undo", x.undo(), NOT);
        same("new seed", x.seed(0), 0);
        same("new goBack", x.goBack(0), NOT);
        same("new fault", x.fault(), NONE);
        same("new madeUp", x.madeUp(NONE), 0);
        same("new madeUp of one", x.madeUp(0), UNKNOWN);
        same("new moves", x.moves(0), NONE);
        same("new laws of one", x.laws(1, 0), UNKNOWN);
        same("new alike", x.alike(0, 1), UNKNOWN);
        same("new cold", x.cold(0, 30), 1000000000);
        same("new judge", x.judge(), NONE);
        same("new write", x.write(0, true), UNKNOWN);
        same("new tear", x.tear(), 0);
    }

    private static void feed() {
        SnoreCars x = new SnoreCars();
        same("feed below", x.feed(-1), OUTSIDE);
        same("feed above", x.feed(256), OUTSIDE);
        same("feed lowest", x.feed(LOWEST), OUTSIDE);
        same("feed 0", x.feed(0), 1);
        same("feed 255", x.feed(255), 2);
        for (int n = 3; n <= 240; n++) {
            same("feed n", x.feed(32), n);
        }
        same("feed of too many", x.feed(32), FULL);
        same("feed outside of too many", x.feed(256), OUTSIDE);
        same("letters", x.told(4), 240);
        same("train of odd letters", x.train(), -11);
        same("letters behind it", x.told(4), 0);
        same("feed again", x.feed('k'), 1);
    }

    private static void train() {
        read("", 0, NONE);
        read("   ", 0, NONE);
        read("k1;", 1, NONE);
        read("k8,1,3,007;", 4, NONE);
        read("  k 1 , 2 ; s0 0 0 0 0 ;c  ", -11, 27);
        read(" k 1 , 2 ; s 11  9 40 12 12 ; s000 1 2 3 4;i 0 , 6 ; c 1 0 ; ", 2, NONE);
        read("k1;i0,1,2,3,4,5,6;", 1, NONE);
        StringBuilder full = new StringBuilder("k8,8,8,8;");
        for (int s = 0; s < 8; s++) {
            full.append('s').append(s).append(" 0 0 0 12;");
        }
        full.append("c7 0;c1 6;c2 5;c3 4;i6;");
        read(full.toString(), 4, NONE);
        while (full.length() < 240) {
            full.append(' ');
        }
        read(full.toString(), 4, NONE);
    }

    private static void faultsOfWords() {
        read("x", -11, 0);
        read("  K1;", -11, 2);
        read("1", -11, 0);
        read("i3;", -11, 0);
        read("c0 1;", -11, 0);
        read("s0 0 0 0 0;k1;", -11, 0);
        read("k", -11, 1);
        read("k1", -11, 2);
        read("k1  ", -11, 4);
        read("k1,", -11, 3);
        read("k,1;", -11, 1);
        read("k;", -11, 1);
        read("k1 2;", -11, 3);
        read("k1 2222;", -11, 3);
        read("k1,,2;", -11, 3);
        read("k1;;", -11, 3);
        read("k1;\ts", -11, 3);
        read("k1,2,3,4,5;", -11, 8);
        read("k1,2,3,4 , 5;", -11, 9);
        read("k1;s0 0 0 0;", -11, 11);
        read("k1;s0 0 0 0 0 0;", -11, 14);
        read("k1;s0,0 0 0 0;", -11, 5);
        read("k1;s0 0 0 0 0,", -11, 13);
        read("k1;s0 0 -1 0 0;", -11, 8);
        read("k1;i;", -11, 4);
        read("k1;i1,;", -11, 6);
        read("k1;i1 2;", -11, 6);
        read("k1;s0 0 0 0 0;s0 0 0 0 0;c0,1;", -11, 27);
        read("k1;s0 0 0 0 0;s0 0 0 0 0;c0;", -11, 27);
        read("k1;s0 0 0 0 0;s0 0 0 0 0;c0 1 1;", -11, 30);
        read("k1;s0 0 0 0 0;s0 0 0 0 0;c0 1", -11, 29);
        read("k1;s0 0 0 0 0;s0 0 0 0 0;c0 1,", -11, 29);
    }

    private static void faultsOfNumbers() {
        read("k0;", -12, 1);
        read("k9", -12, 1);
        read("k1,9;", -12, 3);
        read("k 0001;", -12, 2);
        read("k0012", -12, 1);
        read("k99999999999999999999;", -12, 1);
        read("k4294967297;", -12, 1);
        read("k100x", -12, 1);
        read("k10x", -12, 1);
        read("k1x", -11, 2);
        read("k1;s12 0 0 0 0;", -12, 4);
        read("k1;s0 10 0 0 0;", -12, 6);
        read("k1;s0 0 41 0 0;", -12, 8);
        read("k1;s0 0 0 13 13;", -12, 10);
        read("k1;s0 0 0 0 13;", -12, 12);
        read("k1;s0 0 0 9 0008;", -12, 12);
        read("k1;i7;", -12, 4);
        read("k1;i6,7;", -12, 6);
        read("k1;i6,0005;", -12, 6);
        read("k1;c0 1;", -12, 4);
        read("k1;s0 0 0 0 0;c1 0;", -12, 15);
        read("k1;s0 0 0 0 0;c0 1;s0 0 0 0 0;", -12, 17);
        read("k1;s0 0 0 0 0;c0 0000;", -12, 17);
    }

    private static void faultsOfOrder() {
        read("k1;k1;", -13, 3);
        read("k1;i1;i2;", -13, 6);
        read("k1;i1; i", -13, 7);
        StringBuilder many = new StringBuilder("k1;");
        for (int s = 0; s < 8; s++) {
            many.append("s0 0 0 0 0;");
        }
        read(many + "s", -13, many.length());
        String paired = many + "c0 1;c2 3;c4 5;c6 7;";
        read(paired + "c", -13, paired.length());
        read("k1;s0 0 0 5 4;", -14, 12);
        read("k1;s0 0 0 12 0", -14, 13);
        read("k1;s0 0 0 5 5;", 1, NONE);
        read("k1;i3,3;", -14, 6);
        read("k1;i3,2", -14, 6);
        read("k1;i6,0,9;", -14, 6);
        read("k1;s0 0 0 0 0;c0 0;", -14, 17);
        read(many + "c0 1;c0 2;", -14, many.length() + 6);
        read(many + "c0 1;c1 2;", -14, many.length() + 6);
        read(many + "c0 1;c2 1;", -14, many.length() + 8);
        read(many + "c0 1;c2 0;", -14, many.length() + 8);
        read(many + "c0 1;c1 9;", -14, many.length() + 6);
    }

    private static void trainChanges() {
        SnoreCars x = lying(of(COAST), 0, 0, 1, 1, 1);
        x.seed(77);
        x.write(0, true);
        x.hour(3);
        x.keep(0);
        x.off(0);
        feed(x, "k1;k");
        same("faulty train", x.train(), -13);
        same("its place", x.fault(), 3);
        same("cars as they were", x.told(0), 2);
        same("the hour as it was", x.told(5), 3);
        same("the platform as it was", x.told(7), 1);
        same("the book as it was", x.told(8), 1);
        same("undone as it was", x.told(9), 1);
        same("the text is gone", x.told(4), 0);
        same("the image as it was", x.goBack(0), 1);
        x.off(0);
        feed(x, "k1; s0 9 9 9 11;    ");
        same("a longer train", x.train(), 1);
        String[] parts = {"k1;s0 9 9 9", "k", "k1", "k1;", "k1;s0 9 9 9 1", "k1; "};
        int[] ends = {-11, -11, -11, 1, -14, 1};
        int[] places = {11, 1, 2, NONE, 12, NONE};
        for (int i = 0; i < parts.length; i++) {
            feed(x, parts[i]);
            same("what was told before is not read: " + parts[i], x.train(), ends[i]);
            same("its place", x.fault(), places[i]);
        }
        feed(x, COAST);
        same("the coast", x.train(), 2);
        x.write(0, false);
        x.put(0, 1);
        x.hour(2);
        feed(x, "k3;s5 1 2 3 4;");
        same("a new train", x.train(), 1);
        int[] due = {1, 1, 0, 57, 0, 0, 0, 1, 0, 0};
        for (int what = 0; what < due.length; what++) {
            same("new train told(" + what + ")", x.told(what), due[what]);
        }
        same("no fault any more", x.fault(), NONE);
        same("the image is gone", x.goBack(0), NOT);
        same("nothing to undo", x.undo(), NOT);
        same("the seed stays", x.seed(0), 77);
        same("who is in the car", x.car(0, 1), 0);
        same("no mate", x.sleeper(0, 7), NONE);
        same("an empty train", x.train(), 0);
        same("no cars", x.told(0), 0);
        same("no sleepers", x.told(1), 0);
        same("the law untold", x.told(3), 57);
    }

    private static void trainAfterTrain() {
        SnoreCars x = new SnoreCars();
        for (int n = 0; n < 4; n++) {
            feed(x, "k2,3;i2,5;s0 6 3 9 12;s4 5 4 2 8;c0 1;");
            same("train with a law", x.train(), 2);
            same("couples", x.told(2), 1);
            same("law", x.told(3), 36);
            same("the mate", x.sleeper(1, 7), 0);
            feed(x, "k1;s0 6 3 0 2;s4 5 4 2 3;s4 5 4 2 3;");
            same("train without", x.train(), 1);
            same("no couples", x.told(2), 0);
            same("the law untold", x.told(3), 57);
            same("no mate", x.sleeper(1, 7), NONE);
            x.put(0, 0);
            same("hours of before are gone", x.sounds(0, 9, 0), 0);
            same("hours of now", x.sounds(0, 1, 0), 1);
        }
    }

    private static void told() {
        SnoreCars x = lying(of("k1,4;s0 9 0 0 1;s1 9 0 0 2;s2 9 40 0 3;s3 0 1 0 0;c1 2;c3 0;i0,6;"), 1, 1, 1);
        x.write(0, true);
        x.write(0, true);
        x.feed(' ');
        same("an hour", x.hour(2), 2);
        int[] due = {2, 4, 2, 65, 1, 2, 3, 8, 2, 4};
        for (int what = 0; what < due.length; what++) {
            same("told(" + what + ")", x.told(what), due[what]);
        }
        for (int what : ODD) {
            same("told outside", x.told(what), OUTSIDE);
        }
        same("told(10)", x.told(10), OUTSIDE);
    }

    private static void car() {
        SnoreCars x = lying(of("k2,3;s0 1 5 0 2;s1 1 5 0 1;s3 1 5 1 3;s6 0 0 0 0;"), 0, 0, 1);
        same("berths 0", x.car(0, 0), 2);
        same("berths 1", x.car(1, 0), 3);
        same("there 0", x.car(0, 1), 3);
        same("there 1", x.car(1, 1), 4);
        same("out of tune", x.car(0, 2), 1);
        same("alone is in tune", x.car(1, 2), 0);
        x.hour(1);
        same("one of them is still", x.car(0, 2), 0);
        x.hour(12);
        same("in the morning", x.car(0, 2), 0);
        same("awake ones do not snore", lying(of("k2;s0 9 0 0 2;s1 9 0 0 2;"), 0, 0).car(0, 2), 1);
        SnoreCars y = lying(of("k2;s0 9 0 0 2;s1 9 0 0 2;"), 0, 0);
        y.hour(1);
        same("awake ones do not snore", y.car(0, 2), 0);
        for (int odd : ODD) {
            same("car unknown", x.car(odd, 9), UNKNOWN);
            same("car outside", x.car(0, odd), OUTSIDE);
        }
        same("car(2, 0)", x.car(2, 0), UNKNOWN);
        same("car(0, 3)", x.car(0, 3), OUTSIDE);
    }

    private static void sleeper() {
        SnoreCars x = lying(of("k4,1;s11 9 40 0 12;s1 7 30 2 11;s2 5 4 1 1;s6 6 0 1 3;c3 1;"), 0, 0, 0, 1);
        int[][] due = {{11, 9, 40, 0, 12, 0, 0, NONE}, {1, 7, 30, 2, 11, 0, 0, 3}, {2, 5, 4, 1, 1, 0, 0, NONE},
            {6, 6, 0, 1, 3, 1, 0, 1}};
        for (int s = 0; s < due.length; s++) {
            for (int what = 0; what < due[s].length; what++) {
                same("sleeper(" + s + ", " + what + ")", x.sleeper(s, what), due[s][what]);
            }
        }
        same("noise of itself is none", x.sleeper(0, 8), 0);
        same("noise of an interval of 2", x.sleeper(1, 8), 9);
        same("an interval of 3 is in tune", x.sleeper(2, 8), 0);
        x.hour(2);
        same("noise of both ways", x.sleeper(0, 8), 7);
        same("noise to one that does not snore", x.sleeper(2, 8), 7);
        x.hour(1);
        same("woken by it", x.sleeper(2, 6), 1);
        same("noise to one that is awake", x.sleeper(2, 8), 0);
        x.off(0);
        same("noise on the platform", x.sleeper(0, 8), 0);
        same("its car", x.sleeper(0, 5), NONE);
        x.hour(12);
        same("noise in the morning", x.sleeper(1, 8), 0);
        SnoreCars first = lying(of("k2;s0 9 40 0 12;s1 9 40 0 12;"), 0, 0);
        same("the last hour", first.hour(11), 11);
        same("noise of the last hour", first.sleeper(1, 8), 9);
        first.hour(1);
        same("nobody snores in the morning", first.sleeper(1, 8), 0);
        SnoreCars loud = lying(of("k3;s0 9 40 0 12;s1 8 40 0 12;s2 7 40 0 12;"), 0, 0, 0);
        same("noise of two together", loud.sleeper(0, 8), 15);
        for (int odd : ODD) {
            same("sleeper unknown", x.sleeper(odd, 99), UNKNOWN);
            same("sleeper outside", x.sleeper(0, odd), OUTSIDE);
        }
        same("sleeper(4, 0)", x.sleeper(4, 0), UNKNOWN);
        same("sleeper(0, 9)", x.sleeper(0, 9), OUTSIDE);
    }

    private static void interval() {
        SnoreCars x = of("k1;s0 0 0 0 0;s6 0 0 0 0;s11 0 0 0 0;s0 0 0 0 0;s4 0 0 0 0;");
        same("0 to 6", x.interval(0, 1), 6);
        same("0 to 11", x.interval(0, 2), 1);
        same("11 to 0", x.interval(2, 0), 1);
        same("0 to 0", x.interval(0, 3), 0);
        same("11 to 4", x.interval(2, 4), 5);
        same("one twice", x.interval(1, 1), UNKNOWN);
        same("no such second", x.interval(0, 5), UNKNOWN);
        same("no such first", x.interval(-1, 0), UNKNOWN);
    }

    private static void put() {
        SnoreCars x = of("k1,2;s0 0 0 0 0;s0 0 0 0 0;s0 0 0 0 0;s0 0 0 0 0;");
        same("from the platform", x.put(0, 1), NONE);
        same("it is there", x.put(0, 1), NOT);
        same("the second berth", x.put(1, 1), NONE);
        same("the car is full", x.put(2, 1), NOT);
        same("it is there, the car is full", x.put(1, 1), NOT);
        same("from another car", x.put(0, 0), 1);
        same("a full car of one", x.put(1, 0), NOT);
        same("where it was", x.sleeper(1, 5), 1);
        same("the berth is free again", x.put(3, 1), NONE);
        same("car 0", x.car(0, 1), 1);
        same("car 1", x.car(1, 1), 10);
        same("the platform", x.told(7), 4);
        same("refused ones are not kept", x.told(9), 4);
        for (int odd : ODD) {
            same("put of nobody", x.put(odd, 0), UNKNOWN);
            same("put nowhere", x.put(0, odd), UNKNOWN);
        }
        same("put(4, 0)", x.put(4, 0), UNKNOWN);
        same("put(0, 2)", x.put(0, 2), UNKNOWN);
        SnoreCars y = lying(of("k2,2;s0 9 0 0 12;s1 9 0 0 12;c0 1;"), 0, 0);
        y.hour(1);
        same("a couple can be split", y.put(1, 1), 0);
        same("awake in another car, too", y.told(6), 3);
    }

    private static void off() {
        SnoreCars x = lying(of(COAST), 1);
        same("off", x.off(0), 1);
        same("off again", x.off(0), NOT);
        same("never in a car", x.off(4), NOT);
        for (int odd : ODD) {
            same("off of nobody", x.off(odd), UNKNOWN);
        }
        same("off(5)", x.off(5), UNKNOWN);
        same("kept of it", x.told(9), 2);
    }

    private static void hour() {
        SnoreCars x = lying(of("k2;s0 9 3 0 12;s1 4 8 4 5;"), 0, 0);
        same("hour(4)", x.hour(4), 4);
        same("louder than depth wakes", x.told(6), 2);
        same("hour(12) till morning", x.hour(12), 12);
        same("one that is awake does not snore", x.told(6), 2);
        same("morning", x.hour(1), NOT);
        same("morning and outside", x.hour(0), OUTSIDE);
        same("hour(13)", x.hour(13), OUTSIDE);
        for (int odd : ODD) {
            same("hour outside", x.hour(odd), OUTSIDE);
        }
        same("no cars", new SnoreCars().hour(12), NOT);
        same("no cars and outside", new SnoreCars().hour(13), OUTSIDE);
        SnoreCars y = of("k1;");
        same("cars without sleepers", y.hour(11), 11);
        same("the last hour", y.hour(12), 12);
        SnoreCars even = lying(of("k3;s0 4 8 0 1;s1 4 4 0 1;s2 4 4 0 1;"), 0, 0, 0);
        even.hour(1);
        same("as loud as depth wakes nobody; both at 1 and 2 hear 8", even.told(6), 6);
        SnoreCars tuned = lying(of("k2;i1;s0 9 0 0 12;s1 9 0 0 12;"), 0, 0);
        tuned.hour(12);
        same("in tune wakes nobody", tuned.told(6), 0);
        SnoreCars alike = lying(of("k2;i1;s3 9 0 0 12;s3 9 0 0 12;"), 0, 0);
        alike.hour(12);
        same("like pitches are out of tune without 0", alike.told(6), 3);
        SnoreCars apart = lying(of("k2,1;s0 9 0 0 12;s1 9 0 0 12;"), 0, 1);
        apart.hour(12);
        same("other cars are not heard", apart.told(6), 0);
    }

    private static void wakingAtOnce() {
        SnoreCars x = lying(of("k2;s0 9 0 2 4;s1 1 0 3 12;"), 0, 0);
        same("hours to 2", x.hour(2), 2);
        same("nobody snores", x.told(6), 0);
        x.hour(1);
        same("it is woken before it snores", x.told(6), 2);
        x.hour(12);
        same("and wakes nobody then", x.told(6), 2);
        SnoreCars both = lying(of("k2;s0 9 0 3 4;s1 1 0 3 12;"), 0, 0);
        both.hour(12);
        same("both at once", both.told(6), 3);
        SnoreCars end = lying(of("k2;s0 9 0 11 12;s1 9 0 0 0;"), 0, 0);
        end.hour(11);
        same("hour 11 is still to come", end.told(6), 0);
        end.hour(1);
        same("hour 11 counts", end.told(6), 2);
    }

    private static void evening() {
        SnoreCars x = lying(of(COAST), 1, 1, 1);
        x.hour(5);
        same("evening()", x.evening(), 3);
        same("the hour", x.told(5), 0);
        same("nobody awake", x.told(6), 0);
        same("all stay", x.car(1, 1), 7);
        same("nobody was", x.evening(), 0);
        same("undone", x.undo(), 5);
        same("undone", x.undo(), 4);
        same("the hour again", x.told(5), 5);
        same("awake again", x.told(6), 7);
        same("no cars", new SnoreCars().evening(), NOT);
        same("no sleepers", of("k1;").evening(), 0);
    }

    private static void drift() {
        SnoreCars x = of("k1;s0 0 0 0 0;");
        same("seed", x.seed(1), 0);
        same("drift(1)", x.drift(1), 1);
        same("one draw of 5: 16838 is 3 then", x.seed(5), 1103527590);
        same("drift(12)", x.drift(12), 12);
        same("morning", x.drift(1), NOT);
        same("morning and outside", x.drift(13), OUTSIDE);
        same("outside", x.drift(0), OUTSIDE);
        for (int odd : ODD) {
            same("drift outside", x.drift(odd), OUTSIDE);
        }
        same("no cars", new SnoreCars().drift(1), NOT);
        same("no sleepers", of("k1;").drift(1), NOT);
        same("no sleepers and outside", of("k1;").drift(0), OUTSIDE);
        lulled();
        SnoreCars woken = lying(of("k2;s0 9 9 0 1;s1 1 0 0 1;"), 0, 0);
        woken.seed(3);
        same("hours pass as hour() lets them", woken.drift(1), 1);
        same("who wakes", woken.told(6), 2);
        same("undo", woken.undo(), 2);
        same("nobody awake", woken.told(6), 0);
        same("the hour", woken.told(5), 0);
        same("the seed stays", woken.seed(0), next(3));
    }

    private static int next(int seed) {
        return (int) ((seed * 1103515245L + 12345) % 2147483648L);
    }

    /** A seed is looked for by which the sleeper that is awake falls asleep again. */
    private static void lulled() {
        boolean[] seen = new boolean[4];
        for (int seed = 0; seed < 60; seed++) {
            SnoreCars x = lying(of("k3;s0 9 9 0 1;s1 1 0 0 1;s2 1 0 1 1;"), 0, 0, NONE);
            x.hour(1);
            x.seed(seed);
            x.drift(1);
            int first = next(seed);
            int second = next(first);
            boolean draws = first / 65536 % 5 == 0;
            int whom = second / 65536 % 3;
            same("seed behind a drift", x.seed(0), draws ? second : first);
            same("awake behind a drift", x.told(6), draws && whom == 1 ? 0 : 2);
            seen[draws ? whom : 3] = true;
        }
        for (boolean one : seen) {
            same("each kind of draw was seen", one ? 1 : 0, 1);
        }
    }

    private static void undo() {
        SnoreCars x = of("k1,2;s0 9 0 0 12;s1 9 0 0 12;");
        x.put(0, 1);
        x.put(1, 1);
        x.hour(2);
        x.put(0, 0);
        x.off(0);
        same("undo off", x.undo(), 4);
        same("in its car", x.sleeper(0, 5), 0);
        same("undo put", x.undo(), 3);
        same("in its car before", x.sleeper(0, 5), 1);
        same("undo hour", x.undo(), 2);
        same("the hour", x.told(5), 0);
        same("nobody awake", x.told(6), 0);
        same("undo put", x.undo(), 1);
        same("undo put", x.undo(), 0);
        same("the platform", x.told(7), 3);
        same("nothing more", x.undo(), NOT);
        for (int n = 1; n <= 25; n++) {
            same("put or off", n % 2 == 1 ? x.put(0, 0) : x.off(0), n % 2 == 1 ? NONE : 0);
            same("kept", x.told(9), Math.min(n, 20));
        }
        for (int n = 19; n >= 0; n--) {
            same("undo of 20", x.undo(), n);
            same("where it is then", x.sleeper(0, 5), n % 2 == 1 ? NONE : 0);
        }
        same("the oldest are lost", x.undo(), NOT);
        same("one put remains", x.sleeper(0, 5), 0);
        x.write(0, true);
        x.off(0);
        x.write(1, true);
        same("undo", x.undo(), 0);
        same("the book stays", x.told(8), 2);
    }

    private static void wake() {
        SnoreCars x = lying(of("k2,3;s0 9 3 0 2;s1 4 8 4 5;s2 9 9 0 12;"), 0, 0);
        same("wake", x.wake(), 2);
        same("nothing changes", x.told(6), 0);
        same("nothing changes", x.told(5), 0);
        x.hour(2);
        x.put(0, 1);
        x.put(2, 0);
        same("from now on: nobody more", x.wake(), 2);
        x.hour(12);
        same("in the morning who is awake", x.wake(), 2);
        x.evening();
        same("from the evening", x.wake(), 2);
        same("no cars", new SnoreCars().wake(), 0);
        SnoreCars late = lying(of("k2;s0 9 0 0 2;s1 9 0 5 6;"), 0);
        late.hour(3);
        late.put(1, 0);
        same("hours that are past wake nobody", late.wake(), 1);
    }

    private static void shunted() {
        SnoreCars x = lying(of("k2,2;s0 1 9 3 5;s1 1 9 4 6;s5 1 9 2 4;s7 1 9 3 9;"), 0, 0, 1, 1);
        same("the hour", x.shunted(0), 3);
        same("the car", x.shunted(1), 1);
        x.hour(4);
        same("the hour from now on", x.shunted(0), 4);
        same("the car from now on", x.shunted(1), 0);
        x.hour(1);
        same("none", x.shunted(0), NONE);
        same("none", x.shunted(1), NONE);
        for (int odd : ODD) {
            same("shunted outside", x.shunted(odd), OUTSIDE);
        }
        same("shunted(2)", x.shunted(2), OUTSIDE);
        SnoreCars like = lying(of("k2,2;s0 1 9 3 5;s1 1 9 3 6;s5 1 9 2 4;s7 1 9 3 9;"), 0, 0, 1, 1);
        same("the lesser car of one hour", like.shunted(1), 0);
        SnoreCars woken = lying(of("k2;s0 9 9 0 1;s1 9 0 1 2;s1 9 0 9 12;"), 0, 0);
        woken.put(2, 0);
        same("who will be awake by then does not snore", woken.shunted(0), NONE);
        SnoreCars three = lying(of("k3;s0 9 9 0 1;s1 9 0 1 3;s2 1 9 1 3;"), 0, 0, 0);
        same("woken at hour 0, silent at hour 1", three.shunted(0), NONE);
        three.hour(1);
        same("awake now, silent from now on", three.shunted(1), NONE);
        three.evening();
        three.off(0);
        same("unwoken, it is heard", three.shunted(0), 1);
        SnoreCars late = lying(of("k2;s0 9 40 11 12;s1 9 40 11 12;"), 0, 0);
        same("hour 11", late.shunted(0), 11);
        late.hour(12);
        same("the morning", late.shunted(0), NONE);
    }

    private static void madeUp() {
        SnoreCars x = of(COAST);
        int[] due = {1, 1, 0, 1, 0};
        same("fewest", x.madeUp(NONE), 0);
        for (int s = 0; s < due.length; s++) {
            same("car of " + s, x.madeUp(s), due[s]);
        }
        same("nothing changes", x.told(7), 31);
        lying(x, 1, NONE, 1, 1);
        x.hour(9);
        same("from a new evening, anew", x.madeUp(4), 0);
        same("the hour stays", x.told(5), 9);
        same("no such sleeper", x.madeUp(5), UNKNOWN);
        same("below NONE", x.madeUp(-2), UNKNOWN);
        same("far off", x.madeUp(HIGHEST), UNKNOWN);
        SnoreCars crowd = of("k1,1;s0 0 0 0 0;s0 0 0 0 0;s0 0 0 0 0;");
        same("too few berths", crowd.madeUp(NONE), NONE);
        same("too few berths", crowd.madeUp(2), NONE);
        SnoreCars couple = of("k1,1;s0 0 0 0 0;s0 0 0 0 0;c1 0;");
        same("no car for a couple", couple.madeUp(NONE), NONE);
        SnoreCars later = of("k1,2;s0 0 0 0 0;s0 0 0 0 0;c1 0;");
        same("a couple in the second car", later.madeUp(NONE), 0);
        same("a couple in the second car", later.madeUp(0), 1);
        SnoreCars loud = of("k2,2;s0 9 0 0 12;s1 9 0 0 12;s4 9 0 0 12;s2 9 0 0 12;c0 1;");
        same("a couple wakes", loud.madeUp(NONE), 4);
        same("without SLEEPERS 0", of("k4;").madeUp(NONE), 0);
        same("without SLEEPERS nobody", of("k4;").madeUp(0), UNKNOWN);
        for (int n = 0; n < 2; n++) {
            feed(x, "k1,1;s0 9 0 0 12;s1 9 0 0 12;");
            x.train();
            same("made up of the train of now", x.madeUp(1), 1);
            feed(x, "k1,2;s0 9 8 0 1;s1 9 9 0 1;c0 1;");
            x.train();
            same("made up of the train of now: at hour 0", x.madeUp(NONE), 1);
            same("made up of the train of now", x.madeUp(0), 1);
        }
        SnoreCars like = of("k2,2;s0 9 0 0 12;s1 9 0 0 12;s3 0 0 0 0;s5 0 0 0 0;c1 0;");
        same("a couple wakes, whatever is done", like.madeUp(NONE), 2);
        int[] first = {0, 0, 1, 1};
        for (int s = 0; s < first.length; s++) {
            same("the first of like ones", like.madeUp(s), first[s]);
        }
    }

    private static void moves() {
        SnoreCars x = lying(of(COAST), 0, 1, 0, 1, 1);
        same("how many", x.moves(NONE), 1);
        same("the first", x.moves(0), 104);
        same("no second", x.moves(1), NONE);
        same("below NONE", x.moves(-2), NONE);
        same("lowest", x.moves(LOWEST), NONE);
        same("highest", x.moves(HIGHEST), NONE);
        same("nothing changes", x.car(0, 1), 5);
        x.hour(12);
        same("in the morning none is needed", x.moves(NONE), 0);
        same("in the morning none", x.moves(0), NONE);
        SnoreCars put = lying(of("k3,3;s0 9 3 0 12;s1 9 3 0 12;s2 0 40 0 12;"), 0, 0, 1);
        same("one put", put.moves(NONE), 1);
        same("0 into car 1", put.moves(0), 1);
        SnoreCars platform = lying(of("k2;s0 9 3 0 12;s1 9 3 0 12;"), 0, 0);
        same("no other car", platform.moves(NONE), NONE);
        same("no other car", platform.moves(0), NONE);
        SnoreCars past = lying(of("k2,2;s0 9 3 0 2;s1 9 3 0 2;s3 1 1 0 0;"), 0, 1);
        past.hour(2);
        past.off(1);
        past.put(1, 0);
        same("hours that are past wake nobody", past.moves(NONE), 0);
        past.evening();
        same("from a new evening they do", past.moves(0), 1);
        past.put(2, 1);
        same("one put into a car that is not empty", past.moves(0), 1);
        SnoreCars second = lying(of("k1,2,1;s9 0 40 0 0;s0 9 3 0 12;s1 9 3 0 12;s8 9 0 0 0;"), 2, 1, 1);
        same("another car is free", second.moves(0), 10);
        second.put(3, 0);
        same("an exchange with one in another car", second.moves(0), 101);
        SnoreCars awake = lying(of("k2;s0 9 3 0 12;s1 9 3 0 12;"), 0, 0);
        awake.hour(1);
        same("who is awake now is left so", awake.moves(NONE), 0);
    }

    private static void twoMoves() {
        SnoreCars x = lying(of("k3,3;s0 9 3 0 12;s1 9 3 0 12;s6 9 3 0 12;s7 9 3 0 12;"), 0, 0, 1, 1);
        same("one exchange does", x.moves(NONE), 1);
        same("0 and 3 change: 1 with 6, 7 with 0 are in tune", x.moves(0), 102);
        SnoreCars y = lying(of("k2,2,2;s0 9 0 0 12;s1 9 0 0 12;s2 9 0 0 12;i0;"), 0, 0, 1);
        same("a put alone does", y.moves(NONE), 1);
        same("0 into car 2", y.moves(0), 2);
        SnoreCars z = lying(of("k3,1,2;s0 9 0 0 12;s1 9 0 0 12;s2 9 0 0 12;i0;"), 0, 0, 0);
        same("two puts", z.moves(NONE), 2);
        same("0 into car 1", z.moves(0), 1);
        same("1 into car 2", z.moves(1), 12);
        same("no third", z.moves(2), NONE);
        same("nothing changes", z.car(0, 1), 7);
        SnoreCars pair = lying(of("k2,2,1;s4 0 40 0 0;s4 9 3 0 12;s5 9 3 0 12;s4 0 9 0 0;s0 9 3 0 12;"), 1, 0, 0);
        pair.put(4, 1);
        same("a put alone: into car 2", pair.moves(0), 12);
        pair.put(3, 2);
        same("0, 1 and 2 in tune, or 4 with 1", pair.moves(NONE), 1);
        same("0 and 1 change", pair.moves(0), 101);
        pair.off(0);
        pair.off(3);
        pair.put(3, 1);
        same("who is on the platform is not moved: 1 into car 2", pair.moves(0), 12);
        SnoreCars swaps = lying(of("k2,2,2;i3;s0 9 0 0 12;s3 9 0 0 12;s1 9 0 0 12;s4 9 0 0 12;s2 9 0 0 12;s5 9 0 0 12;"),
            0, 1, 2, 0, 1, 2);
        same("three pairs by two exchanges", swaps.moves(NONE), 2);
        same("0 and 2 change: pitches 1 and 4", swaps.moves(0), 102);
        same("then 0 and 4: 0 and 3, 2 and 5", swaps.moves(1), 104);
        SnoreCars three = lying(of("k4,1,1,1;s0 9 0 0 12;s1 9 0 0 12;s2 9 0 0 12;s3 9 0 0 12;i0;"), 0, 0, 0, 0);
        same("three are too many", three.moves(NONE), NONE);
    }

    private static void laws() {
        SnoreCars x = lying(of("k2,2;s0 9 3 0 12;s1 4 8 4 5;s4 1 0 0 0;"), 0, 0);
        same("1 untuned: half of all", x.laws(2, 0), 64);
        same("none", x.laws(2, 1), 0);
        same("1 tuned", x.laws(0, 0), 64);
        same("just the interval 1", x.laws(0, 1), 2);
        same("never", x.laws(1, 0), 0);
        same("never", x.laws(1, 1), NONE);
        same("on the platform", x.laws(4, 0), 0);
        x.hour(8);
        same("from a new evening", x.laws(0, 0), 64);
        same("nothing changes", x.told(3), 57);
        SnoreCars two = lying(of("k3;s0 9 8 0 12;s2 9 8 0 12;s5 9 8 0 12;i6;"), 0, 0, 0);
        same("fewest of 2, 3 and 5", two.laws(0, 1), 44);
        same("one of two neighbours left out", two.laws(7, 1), 0);
        same("0 and 2 are left out of tune", two.laws(3, 1), 40);
        SnoreCars like = lying(of("k3;s0 9 0 0 12;s2 5 17 0 12;s5 9 0 0 12;i6;"), 0, 0, 0);
        same("the least of like ones", like.laws(5, 1), 4);
        SnoreCars fewer = lying(of("k4;s0 0 4 0 1;s0 2 40 0 1;s1 2 40 0 1;s2 4 40 0 1;"), 0, 0, 0, 0);
        same("2 alone has fewer than 0 and 1, though it is more", fewer.laws(0, 1), 4);
        same("hour 0 counts", fewer.laws(1, 1), 0);
        same("no such sleeper", x.laws(8, 0), UNKNOWN);
        same("below", x.laws(-1, 5), UNKNOWN);
        for (int odd : ODD) {
            same("laws outside", x.laws(0, odd), OUTSIDE);
        }
        same("laws(0, 2)", x.laws(0, 2), OUTSIDE);
    }

    private static void pitches() {
        SnoreCars x = lying(of("k2,2;s0 9 3 0 12;s1 0 8 4 5;s4 1 0 0 0;"), 0, 0);
        int tuned = 1 | 1 << 3 | 1 << 4 | 1 << 5 | 1 << 7 | 1 << 8 | 1 << 9;
        same("of 1, nobody wakes", x.pitches(1, 0, 0), tuned);
        same("of 1, it wakes", x.pitches(1, 2, 0), 4095 & ~tuned);
        same("test of 0 and 9: 1 is 4 from 9", x.pitches(1, 0, 1), 1);
        same("test of 1 and 11: 1 is 2 from 11", x.pitches(1, 2, 1), 1);
        same("never", x.pitches(1, 1, 0), 0);
        same("never a test", x.pitches(1, 1, 1), NONE);
        same("of one on the platform", x.pitches(2, 2, 0), 4095);
        same("nothing changes", x.sleeper(1, 0), 1);
        x.hour(5);
        same("from a new evening", x.pitches(1, 0, 0), tuned);
        SnoreCars early = lying(of("k2;s0 9 3 0 1;s1 0 8 4 5;"), 0, 0);
        same("hour 0 counts", early.pitches(1, 2, 0), 4095 & ~tuned);
        same("that of the other, on its own", early.pitches(0, 2, 0), 4095 & ~1906);
        SnoreCars zero = lying(of("k2;i0,3;s11 9 3 0 1;s1 0 8 4 5;"), 0, 0);
        same("2, 8 and 11 are in tune with 11", zero.pitches(1, 0, 0), 2308);
        same("test of 2 and 11: 5 is 3 from 2, 6 from 11", zero.pitches(1, 0, 1), 5);
        same("test of 0 and 10: 0", zero.pitches(1, 2, 1), 0);
        SnoreCars one = lying(of("k2;i0;s7 9 3 0 12;s1 0 8 4 5;"), 0, 0);
        same("one pitch", one.pitches(1, 0, 0), 128);
        same("no test of one", one.pitches(1, 0, 1), NONE);
        SnoreCars none = lying(of("k2;i0;s0 9 3 0 12;s1 0 8 4 5;"), 0, 0);
        same("pitch 0 alone", none.pitches(1, 0, 0), 1);
        same("no test of it", none.pitches(1, 0, 1), NONE);
        SnoreCars all = lying(of("k2;i0,1,2,3,4,5,6;s7 9 3 0 12;s1 0 8 4 5;"), 0, 0);
        same("all", all.pitches(0, 0, 0), 4095);
        same("no test tells them", all.pitches(0, 0, 1), NONE);
        same("no such sleeper", x.pitches(3, 0, 0), UNKNOWN);
        same("no such set", x.pitches(0, 8, 0), UNKNOWN);
        same("below", x.pitches(-1, -1, 7), UNKNOWN);
        for (int odd : ODD) {
            same("pitches outside", x.pitches(0, 0, odd), OUTSIDE);
        }
        same("pitches(0, 0, 2)", x.pitches(0, 0, 2), OUTSIDE);
    }

    private static void bestCar() {
        SnoreCars x = lying(of("k1,3,2,4;s0 9 3 0 12;s1 9 3 0 12;s2 9 3 0 12;s4 2 3 0 12;"), 0, 1, 2);
        same("3 is in tune with 0 and 1, no noise to 2; car 0 is full", x.bestCar(3, 0), 1);
        same("worth", x.bestCar(3, 1), 1);
        same("0 to the empty car or its own", x.bestCar(0, 0), 0);
        same("0: two fewer than with 1", x.bestCar(0, 1), 2);
        x.hour(7);
        x.put(0, 1);
        x.hour(1);
        same("awake now", x.told(6), 3);
        same("from a new evening", x.bestCar(1, 0), 0);
        same("from a new evening", x.bestCar(1, 1), 2);
        same("nothing changes", x.told(6), 3);
        SnoreCars best = lying(of("k4,3;s0 9 3 0 1;s1 9 3 0 1;s4 9 3 0 1;s1 9 3 0 1;"), 0, 0, 1);
        same("two wake by themselves; 3 is in tune in car 1", best.bestCar(3, 0), 1);
        same("three wake with it in car 0, two in car 1", best.bestCar(3, 1), 1);
        SnoreCars middle = lying(of("k2,3,3;s0 9 3 0 1;s2 9 3 0 1;s3 9 3 0 1;s1 9 3 0 1;"), 0, 1, 1);
        same("four wake with it in car 0, three in car 1, two in car 2", middle.bestCar(3, 0), 2);
        same("four less two", middle.bestCar(3, 1), 2);
        SnoreCars full = lying(of("k1,1;s0 0 0 0 0;s0 0 0 0 0;s0 0 0 0 0;"), 0, 1);
        same("none is free", full.bestCar(2, 0), NONE);
        same("none is free", full.bestCar(2, 1), NONE);
        same("its own is", full.bestCar(1, 0), 1);
        same("its own is all", full.bestCar(1, 1), 0);
        same("no such sleeper", full.bestCar(3, 5), UNKNOWN);
        for (int odd : ODD) {
            same("bestCar of nobody", full.bestCar(odd, odd), UNKNOWN);
            same("bestCar outside", full.bestCar(0, odd), OUTSIDE);
        }
        same("bestCar(0, 2)", full.bestCar(0, 2), OUTSIDE);
    }

    private static void alike() {
        SnoreCars x = of("k3,3,3;s0 0 0 0 0;s4 0 0 0 0;s7 0 0 0 0;s9 0 0 0 0;s1 0 0 0 0;s4 0 0 0 0;s4 0 0 0 0;");
        lying(x, 0, 0, 0, 1, 1, 1);
        same("9, 1, 4 and 3 more are 0, 4, 7", x.alike(0, 1), 3);
        same("the other way", x.alike(1, 0), 9);
        same("an empty one", x.alike(0, 2), NONE);
        x.off(2);
        same("fewer", x.alike(0, 1), NONE);
        SnoreCars twice = lying(of("k3,3;s0 0 0 0 0;s0 0 0 0 0;s6 0 0 0 0;s6 0 0 0 0;s6 0 0 0 0;s0 0 0 0 0;"),
            0, 0, 0, 1, 1, 1);
        same("each as often", twice.alike(0, 1), 6);
        SnoreCars often = lying(of("k3,3;s0 0 0 0 0;s0 0 0 0 0;s6 0 0 0 0;s6 0 0 0 0;s0 0 0 0 0;s5 0 0 0 0;"),
            0, 0, 0, 1, 1, 1);
        same("not as often", often.alike(0, 1), NONE);
        SnoreCars round = lying(of("k2,2;s0 0 0 0 0;s6 0 0 0 0;s3 0 0 0 0;s9 0 0 0 0;"), 0, 0, 1, 1);
        same("the least of 3 and 9", round.alike(0, 1), 3);
        same("both empty", of("k1,1;").alike(0, 1), 0);
        same("one twice", x.alike(1, 1), UNKNOWN);
        for (int odd : ODD) {
            same("alike unknown", x.alike(odd, 0), UNKNOWN);
            same("alike unknown", x.alike(0, odd), UNKNOWN);
        }
        same("alike(0, 3)", x.alike(0, 3), UNKNOWN);
    }

    private static void sounds() {
        SnoreCars x = lying(of("k4,1;s9 3 40 0 3;s4 5 40 2 4;s4 7 40 2 3;s2 9 0 2 3;s0 1 40 0 12;"), 0, 0, 0, 0, 1);
        int[][] due = {{512, 3, 9}, {512, 3, 9}, {532, 24, 2}, {16, 5, 4}, {0, 0, NONE}};
        for (int h = 0; h < due.length; h++) {
            for (int what = 0; what < 3; what++) {
                same("sounds(0, " + h + ", " + what + ")", x.sounds(0, h, what), due[h][what]);
            }
        }
        same("the other car", x.sounds(1, 11, 2), 0);
        x.hour(12);
        same("awake", x.told(6), 8);
        same("who is awake now does not snore", x.sounds(0, 2, 0), 528);
        same("loud without it", x.sounds(0, 2, 1), 15);
        same("bass without it", x.sounds(0, 2, 2), 4);
        same("in the morning, too", x.sounds(1, 0, 0), 1);
        for (int odd : ODD) {
            same("sounds unknown", x.sounds(odd, 99, 99), UNKNOWN);
            same("sounds outside", x.sounds(0, odd, 0), OUTSIDE);
            same("sounds outside", x.sounds(0, 0, odd), OUTSIDE);
        }
        same("sounds(2, 0, 0)", x.sounds(2, 0, 0), UNKNOWN);
        same("sounds(0, 12, 0)", x.sounds(0, 12, 0), OUTSIDE);
        same("sounds(0, 0, 3)", x.sounds(0, 0, 3), OUTSIDE);
    }

    private static void cold() {
        StringBuilder many = new StringBuilder("k1;");
        for (int s = 0; s < 8; s++) {
            many.append("s0 0 0 0 0;");
        }
        SnoreCars x = of(many.toString());
        same("of none", x.cold(0, 100), 1000000000);
        same("of one", x.cold(128, 1), 990000000);
        same("of two", x.cold(5, 30), 490000000);
        same("of all", x.cold(255, 50), 3906250);
        same("cut", x.cold(31, 99), 0);
        same("cut", x.cold(31, 93), 1680);
        same("cut for each", x.cold(255, 1), 922744692);
        same("all have one", x.cold(1, 100), 0);
        same("nobody has", x.cold(255, 0), 1000000000);
        same("no such set", x.cold(256, -1), UNKNOWN);
        same("below", x.cold(-1, 5), UNKNOWN);
        same("lowest", x.cold(LOWEST, 5), UNKNOWN);
        same("q 101", x.cold(1, 101), OUTSIDE);
        for (int odd : ODD) {
            same("q outside", x.cold(0, odd), OUTSIDE);
        }
    }

    private static void write() {
        SnoreCars x = of("k1;s0 0 0 0 0;s0 0 0 0 0;");
        for (int n = 1; n <= 15; n++) {
            same("write", x.write(n % 2, n % 3 == 0), n);
        }
        same("full", x.write(0, true), FULL);
        same("unknown though full", x.write(2, true), UNKNOWN);
        for (int odd : ODD) {
            same("write of nobody", x.write(odd, false), UNKNOWN);
        }
        same("entries", x.told(8), 15);
    }

    private static void tearAndJudge() {
        SnoreCars x = lying(of("k2;s0 9 3 0 2;s1 4 8 4 5;"), 0, 0);
        same("an empty book", x.judge(), NONE);
        x.write(1, true);
        x.write(0, false);
        same("all right", x.judge(), NONE);
        x.write(0, true);
        x.write(1, false);
        same("the first wrong one", x.judge(), 2);
        x.off(0);
        same("by who lies where", x.judge(), 0);
        same("tear", x.tear(), 4);
        same("torn", x.judge(), NONE);
        same("no entries", x.told(8), 0);
        same("tear again", x.tear(), 0);
        x.write(1, false);
        same("written anew", x.judge(), NONE);
        SnoreCars late = lying(of("k2;s0 9 0 0 2;s1 9 0 5 6;"), 0);
        late.hour(3);
        late.put(1, 0);
        late.write(1, false);
        same("from now on", late.judge(), NONE);
    }

    private static void seed() {
        SnoreCars x = new SnoreCars();
        same("seed", x.seed(HIGHEST), 0);
        same("seed below", x.seed(-1), OUTSIDE);
        same("seed lowest", x.seed(LOWEST), OUTSIDE);
        same("seed is as it was", x.seed(0), HIGHEST);
        same("seed 0", x.seed(9), 0);
    }

    private static void keepAndGoBack() {
        SnoreCars x = lying(of(COAST), 1, 1, 1);
        x.seed(3);
        x.drift(6);
        int seed = x.seed(44);
        x.seed(seed);
        int awake = x.told(6);
        same("keep", x.keep(1), 1);
        same("nothing can be undone", x.told(9), 0);
        same("nothing can be undone", x.undo(), NOT);
        x.write(0, true);
        x.off(1);
        x.drift(2);
        x.keep(0);
        x.evening();
        same("not kept", lying(of(COAST)).goBack(0), NOT);
        same("go back", x.goBack(1), 1);
        same("nothing can be undone", x.told(9), 0);
        same("the hour", x.told(5), 6);
        same("awake", x.told(6), awake);
        same("the car", x.car(1, 1), 7);
        same("the seed", x.seed(seed), seed);
        same("the book stays", x.told(8), 1);
        same("the other one", x.goBack(0), 1);
        same("its hour", x.told(5), 8);
        same("its car", x.car(1, 1), 5);
        same("again", x.goBack(1), 1);
        same("the hour again", x.told(5), 6);
        x.off(0);
        SnoreCars y = of(COAST);
        y.keep(0);
        y.put(0, 0);
        same("refused", y.goBack(1), NOT);
        same("what is refused changes nothing", y.told(9), 1);
        for (int odd : ODD) {
            same("keep unknown", y.keep(odd), UNKNOWN);
            same("goBack unknown", y.goBack(odd), UNKNOWN);
        }
        same("keep(2)", y.keep(2), UNKNOWN);
        same("goBack(2)", y.goBack(2), UNKNOWN);
        same("what is refused changes nothing", y.told(9), 1);
        same("an image of no train", new SnoreCars().keep(0), 1);
    }
}
