/** "2 THE NIGHT", DRAWS, UNDONE and promises 5 to 14: each sentence that names a bound, on it and just beyond it. */
public final class BoundsOfNightTests {
    private static final int NONE = SnoreCars.NONE, UNKNOWN = SnoreCars.UNKNOWN, OUTSIDE = SnoreCars.OUTSIDE;
    private static final int NOT = SnoreCars.NOT;
    private static final int LOWEST = Integer.MIN_VALUE, HIGHEST = Integer.MAX_VALUE;
    /** Each snores loudly all night, each two of them are out of tune, nothing wakes the first. */
    private static final String TWO = "k2;s0 9 40 0 12;s1 9 0 0 12;";

    private static final Checks checks = new Checks("BoundsOfNightTests");

    private BoundsOfNightTests() {
    }

    public static void main(String[] args) {
        numbersFromZero();
        sets();
        hoursOfTheNight();
        morning();
        inACar();
        atFirst();
        intervalOfPitches();
        whoSnores();
        whoHears();
        othersTogether();
        notInTune();
        moreThanDepth();
        allAtOnce();
        outOfTune();
        newEvening();
        toldWhat();
        carWhat();
        sleeperWhat();
        eachSleeperItsOwn();
        eachAwakeOrNot();
        noiseIsNone();
        intervalOfSleepers();
        put();
        off();
        hour();
        evening();
        drift();
        driftTillMorning();
        seeds();
        drawOfFive();
        drawOfSleepers();
        fallsAsleepAgain();
        undo();
        twentyAreKept();
        undoneIsNot();
        checks.end();
    }

    private static void same(String what, long got, long due) {
        checks.same(what, got, due);
    }

    private static SnoreCars of(String text, int... cars) {
        return Trains.lying(Trains.of(text), cars);
    }

    private static void numbersFromZero() {
        checks.sentence("What has a number has it from 0 on, as it comes");
        SnoreCars x = of("k5,6;s7 0 0 0 0;s9 0 0 0 0;");
        same("car 0", x.car(0, 0), 5);
        same("car 1", x.car(1, 0), 6);
        same("sleeper 0", x.sleeper(0, 0), 7);
        same("sleeper 1", x.sleeper(1, 0), 9);
    }

    private static void sets() {
        checks.sentence("A SET is a whole number, bit k for k");
        SnoreCars x = of("k8;" + Trains.sleepers(8), 0, NONE, NONE, NONE, NONE, NONE, NONE, 0);
        same("0 and 7 in the car", x.car(0, 1), 1 + 128);
        same("1 to 6 on the platform", x.told(7), 2 + 4 + 8 + 16 + 32 + 64);
    }

    private static void hoursOfTheNight() {
        checks.sentence("THE NIGHT has HOURS 0 to 11");
        SnoreCars first = of("k2;s0 9 40 0 1;s1 9 0 0 0;", 0, 0);
        same("noise at hour 0", first.sleeper(1, 8), 9);
        first.hour(1);
        same("woken at hour 0", first.told(6), 2);
        same("no noise at hour 1", of("k2;s0 9 40 1 2;s1 9 0 0 0;", 0, 0).sleeper(1, 8), 0);
        SnoreCars last = of("k2;s0 9 40 11 12;s1 9 0 0 0;", 0, 0);
        same("hour 11", last.hour(11), 11);
        same("noise at hour 11", last.sleeper(1, 8), 9);
        same("nobody woken ahead of it", last.told(6), 0);
        same("it passes", last.hour(1), 12);
        same("woken at hour 11", last.told(6), 2);
    }

    private static void morning() {
        checks.sentence("Behind HOUR 11 it is morning: no HOUR more");
        SnoreCars x = of(TWO, 0);
        x.hour(11);
        same("at hour 11 an hour", x.hour(1), 12);
        same("told(5), 12: morning", x.told(5), 12);
        same("no hour more", x.hour(1), NOT);
        same("nor by draws", x.drift(1), NOT);
        same("still", x.told(5), 12);
        SnoreCars drawn = of(TWO, 0);
        drawn.hour(11);
        same("at hour 11 an hour by draws", drawn.drift(1), 12);
        same("no hour more", drawn.hour(1), NOT);
        x.put(1, 0);
        same("who comes into the car in the morning hears nothing", x.sleeper(1, 8), 0);
        same("no chord of the morning", x.car(0, 2), 0);
    }

    private static void inACar() {
        checks.sentence("A SLEEPER is in a CAR (no more than its BERTHS)");
        for (int berths = 1; berths <= 8; berths++) {
            SnoreCars x = of("k" + berths + ";" + Trains.sleepers(8));
            for (int s = 0; s < 8; s++) {
                same("of " + berths + " berths, for " + s, x.put(s, 0), s < berths ? NONE : NOT);
            }
            same("who is there", x.car(0, 1), (1 << berths) - 1);
        }
    }

    private static void atFirst() {
        checks.sentence("on the platform (all at first), AWAKE or not (nobody at first)");
        SnoreCars x = of("k8;" + Trains.sleepers(8));
        same("platform", x.told(7), 255);
        same("car", x.car(0, 1), 0);
        same("awake", x.told(6), 0);
        same("hour", x.told(5), 0);
        same("where 7 is", x.sleeper(7, 5), NONE);
        same("where it was", x.put(7, 0), NONE);
    }

    private static void intervalOfPitches() {
        checks.sentence("INTERVAL of two PITCHES: how far they are apart, or 12 less that, the lesser one");
        for (int p = 0; p < 12; p++) {
            for (int q = 0; q < 12; q++) {
                int apart = p > q ? p - q : q - p;
                SnoreCars x = of("k1;s" + p + " 0 0 0 0;s" + q + " 0 0 0 0;");
                same("of " + p + " and " + q, x.interval(0, 1), apart > 6 ? 12 - apart : apart);
            }
        }
        same("0 and 6", of("k1;s0 0 0 0 0;s6 0 0 0 0;").interval(0, 1), 6);
        same("0 and 7", of("k1;s0 0 0 0 0;s7 0 0 0 0;").interval(0, 1), 5);
        same("0 and 11", of("k1;s0 0 0 0 0;s11 0 0 0 0;").interval(0, 1), 1);
    }

    private static void whoSnores() {
        checks.sentence("AN HOUR: who is in a CAR, not AWAKE, SNORES, if it is one of his");
        SnoreCars x = of("k2,2;s0 9 40 2 4;s1 9 40 0 0;", 0, 0);
        int[] due = {0, 0, 9, 9, 0, 0};
        for (int h = 0; h < due.length; h++) {
            same("noise at hour " + h, x.sleeper(1, 8), due[h]);
            x.hour(1);
        }
        SnoreCars off = of(TWO, NONE, 0);
        same("from the platform nobody hears him", off.sleeper(1, 8), 0);
        off.hour(12);
        same("nor wakes", off.told(6), 0);
        SnoreCars woken = of("k2;s0 9 40 0 1;s1 9 0 0 12;", 0, 0);
        same("not awake yet", woken.sleeper(0, 8), 9);
        woken.hour(1);
        same("awake now", woken.told(6), 2);
        same("he snores no more", woken.sleeper(0, 8), 0);
    }

    private static void whoHears() {
        checks.sentence("NOISE for a SLEEPER in a CAR, not AWAKE (SNORING or not)");
        SnoreCars x = of("k3;s0 9 40 0 12;s1 8 40 0 0;s2 7 40 0 12;", 0, 0, 0);
        same("one that does not snore", x.sleeper(1, 8), 16);
        same("one that does", x.sleeper(2, 8), 9);
        x.off(1);
        same("one on the platform", x.sleeper(1, 8), 0);
        SnoreCars awake = of(TWO, 0, 0);
        awake.hour(1);
        same("one that is awake", awake.sleeper(1, 8), 0);
    }

    private static void othersTogether() {
        checks.sentence("LOUD of all others there that SNORE, together");
        StringBuilder eight = new StringBuilder("k8,1;s0 9 40 0 12;");
        int[] lying = {0, NONE, NONE, NONE, NONE, NONE, NONE, NONE};
        for (int s = 1; s < 8; s++) {
            eight.append("s1 9 40 0 12;");
        }
        SnoreCars x = of(eight.toString(), lying);
        for (int others = 0; others <= 7; others++) {
            same("of " + others, x.sleeper(0, 8), 9 * others);
            x.put(others + 1, 0);
        }
        same("the first of all, not those like itself, not itself", x.sleeper(7, 8), 9);
        x.put(7, 1);
        same("one in another car is not there", x.sleeper(0, 8), 54);
        same("nor hears", x.sleeper(7, 8), 0);
    }

    private static void notInTune() {
        checks.sentence("whose INTERVAL with his PITCH is not IN TUNE");
        for (int law = 0; law <= 6; law++) {
            for (int p = 0; p < 12; p++) {
                SnoreCars x = of("k2;i" + law + ";s0 9 40 0 12;s" + p + " 8 40 0 12;", 0, 0);
                boolean isInTune = p == law || 12 - p == law;
                same("i" + law + ", noise of " + p, x.sleeper(0, 8), isInTune ? 0 : 8);
                same("i" + law + ", noise for " + p, x.sleeper(1, 8), isInTune ? 0 : 9);
            }
        }
    }

    private static void moreThanDepth() {
        checks.sentence("Who has more NOISE than DEPTH wakes");
        int[] depths = {0, 1, 8, 9, 17, 40};
        for (int depth : depths) {
            for (int noise = depth; noise <= depth + 1; noise++) {
                StringBuilder text = new StringBuilder("k8;s0 0 " + depth + " 0 0;");
                int rest = noise;
                for (int s = 1; s < 8; s++) {
                    text.append('s').append("1 ").append(Math.min(rest, 9)).append(" 40 0 1;");
                    rest -= Math.min(rest, 9);
                }
                SnoreCars x = of(text.toString(), 0, 0, 0, 0, 0, 0, 0, 0);
                same("noise", x.sleeper(0, 8), noise);
                x.hour(1);
                same("noise " + noise + ", depth " + depth, x.sleeper(0, 6), noise > depth ? 1 : 0);
            }
        }
    }

    private static void allAtOnce() {
        checks.sentence("wakes: AWAKE from now on (all at once, by who SNORED)");
        SnoreCars x = of("k3;s0 5 4 0 1;s1 5 4 0 1;s2 0 5 0 12;", 0, 0, 0);
        same("0 hears 1", x.sleeper(0, 8), 5);
        same("1 hears 0", x.sleeper(1, 8), 5);
        same("2 hears both", x.sleeper(2, 8), 10);
        x.hour(1);
        same("all three of hour 0", x.told(6), 7);
        x.hour(1);
        same("from now on", x.told(6), 7);
    }

    private static void outOfTune() {
        checks.sentence("A CAR is OUT OF TUNE at an HOUR, if some two that SNORE there are not IN TUNE");
        SnoreCars x = of("k3,3;s0 0 40 1 3;s1 0 40 2 5;s4 0 40 0 12;", 0, 0, 0);
        int[] due = {0, 0, 1, 0, 0};
        for (int h = 0; h < due.length; h++) {
            same("at hour " + h + ", though without a sound", x.car(0, 2), due[h]);
            same("the other car", x.car(1, 2), 0);
            x.hour(1);
        }
        same("one that snores alone", of(TWO, 0).car(0, 2), 0);
        same("two in unlike cars", of("k1,1;s0 9 0 0 12;s1 9 0 0 12;", 0, 1).car(0, 2), 0);
        same("two that are in tune", of("k2;s0 9 0 0 12;s3 9 0 0 12;", 0, 0).car(0, 2), 0);
        same("the last two of eight", of("k8;" + Trains.sleepers(6) + "s0 0 0 0 1;s2 0 0 0 1;", 0, 0, 0, 0, 0, 0, 0,
            0).car(0, 2), 1);
        SnoreCars last = of("k2;s0 9 40 11 12;s1 9 40 11 12;", 0, 0);
        last.hour(11);
        same("at hour 11", last.car(0, 2), 1);
        last.hour(1);
        same("in the morning 0", last.car(0, 2), 0);
    }

    private static void newEvening() {
        checks.sentence("A new evening (evening()): HOUR 0, nobody AWAKE; all stay where they are");
        SnoreCars x = of("k2,1;s0 9 0 0 12;s1 9 0 0 12;s2 0 0 0 0;", 0, 0, 1);
        x.hour(12);
        x.off(1);
        same("how many were", x.evening(), 2);
        same("hour", x.told(5), 0);
        same("awake", x.told(6), 0);
        same("car 0", x.car(0, 1), 1);
        same("car 1", x.car(1, 1), 4);
        same("platform", x.told(7), 2);
        same("an hour again", x.hour(1), 1);
    }

    private static void toldWhat() {
        checks.sentence("told: 0 CARS .. 9 how many can be undone. OUTSIDE");
        SnoreCars x = of("k1,1;s0 0 0 0 0;s0 0 0 0 0;s0 0 0 0 0;c0 1;i2;", NONE, 0);
        x.write(0, false);
        x.hour(3);
        Trains.feed(x, "k1");
        int[] due = {2, 3, 1, 4, 2, 3, 0, 5, 1, 2};
        for (int what = 0; what < due.length; what++) {
            same("told(" + what + ")", x.told(what), due[what]);
        }
        int[] odd = {-1, 10, LOWEST, HIGHEST};
        for (int what : odd) {
            same("told(" + what + ")", x.told(what), OUTSIDE);
        }
    }

    private static void carWhat() {
        checks.sentence("Of a CAR: what = 0 BERTHS, 1 who is there, 2 1 it is OUT OF TUNE. UNKNOWN, OUTSIDE");
        SnoreCars x = of("k1,2,3,4;s0 0 0 0 1;s1 0 0 0 1;", 3, 3);
        same("berths", x.car(3, 0), 4);
        same("who is there", x.car(3, 1), 3);
        same("out of tune", x.car(3, 2), 1);
        same("car(3, 3)", x.car(3, 3), OUTSIDE);
        same("car(3, -1)", x.car(3, -1), OUTSIDE);
        same("car(4, 0)", x.car(4, 0), UNKNOWN);
        same("car(-1, 0)", x.car(-1, 0), UNKNOWN);
        same("of two cars", of("k1,1;").car(2, 0), UNKNOWN);
        same("of two cars", of("k1,1;").car(1, 0), 1);
    }

    private static void sleeperWhat() {
        checks.sentence("Of a SLEEPER: what = 0 PITCH .. 8 NOISE at this HOUR. UNKNOWN, OUTSIDE");
        SnoreCars x = of("k1,7;" + Trains.sleepers(6) + "s6 5 40 3 9;s7 4 33 0 12;c2 7;", NONE, NONE, NONE, NONE, NONE,
            NONE, 1, 1);
        int[] six = {6, 5, 40, 3, 9, 1, 0, NONE, 4};
        int[] seven = {7, 4, 33, 0, 12, 1, 0, 2, 0};
        for (int what = 0; what < 9; what++) {
            same("sleeper(6, " + what + ")", x.sleeper(6, what), six[what]);
            same("sleeper(7, " + what + ")", x.sleeper(7, what), seven[what]);
        }
        same("sleeper(7, 9)", x.sleeper(7, 9), OUTSIDE);
        same("sleeper(7, -1)", x.sleeper(7, -1), OUTSIDE);
        same("sleeper(8, 0)", x.sleeper(8, 0), UNKNOWN);
        same("sleeper(-1, 0)", x.sleeper(-1, 0), UNKNOWN);
        same("of one sleeper", of("k1;s3 0 0 0 0;").sleeper(1, 0), UNKNOWN);
        same("of one sleeper", of("k1;s3 0 0 0 0;").sleeper(0, 0), 3);
    }

    private static void eachSleeperItsOwn() {
        checks.sentence("Of a SLEEPER: 0 PITCH, 1 LOUD, 2 DEPTH, 3 A, 4 Z (of each as it was told)");
        StringBuilder text = new StringBuilder("k1;");
        for (int s = 0; s < 8; s++) {
            text.append('s').append(11 - s).append(' ').append(s + 2).append(' ').append(40 - s).append(' ')
                .append(s + 1).append(' ').append(s + 5).append(';');
        }
        SnoreCars x = of(text.toString());
        for (int s = 0; s < 8; s++) {
            int[] due = {11 - s, s + 2, 40 - s, s + 1, s + 5};
            for (int what = 0; what < due.length; what++) {
                same("sleeper(" + s + ", " + what + ")", x.sleeper(s, what), due[what]);
            }
        }
    }

    private static void eachAwakeOrNot() {
        checks.sentence("6 1 AWAKE, 0 not; who has more NOISE than DEPTH wakes, nobody else");
        for (int set = 0; set < 128; set++) {
            StringBuilder text = new StringBuilder("k8;");
            for (int s = 0; s < 7; s++) {
                text.append("s0 0 ").append((set >> s & 1) == 1 ? 8 : 9).append(" 0 0;");
            }
            SnoreCars x = of(text + "s1 9 40 0 12;", 0, 0, 0, 0, 0, 0, 0, 0);
            same("all awake by " + set, x.wake(), set);
            x.hour(1);
            same("the set", x.told(6), set);
            for (int s = 0; s < 7; s++) {
                same("of " + set + ", sleeper(" + s + ", 6)", x.sleeper(s, 6), set >> s & 1);
                same("of " + set + ", noise for " + s, x.sleeper(s, 8), (set >> s & 1) == 1 ? 0 : 9);
            }
        }
    }

    private static void noiseIsNone() {
        checks.sentence("8 NOISE at this HOUR (0: AWAKE, on the platform, in the morning)");
        SnoreCars x = of("k3;s0 9 40 0 12;s1 9 9 0 0;s2 0 8 0 0;", 0, 0, 0);
        same("in a car, not awake, in the night", x.sleeper(1, 8), 9);
        x.hour(1);
        same("awake", x.sleeper(2, 8), 0);
        same("not awake", x.sleeper(1, 8), 9);
        x.off(1);
        same("on the platform", x.sleeper(1, 8), 0);
        x.put(1, 0);
        x.hour(10);
        same("at hour 11", x.sleeper(1, 8), 9);
        x.hour(1);
        same("in the morning", x.sleeper(1, 8), 0);
        SnoreCars all = of("k8;i6;" + "s0 1 40 0 12;".repeat(8), 0, 0, 0, 0, 0, 0, 0, 0);
        for (int h = 0; h < 12; h++) {
            for (int s = 0; s < 8; s++) {
                same("of eight, for " + s + " at hour " + h, all.sleeper(s, 8), 7);
            }
            same("out of tune at hour " + h, all.car(0, 2), 1);
            all.hour(1);
        }
        for (int s = 0; s < 8; s++) {
            same("in the morning none for " + s, all.sleeper(s, 8), 0);
        }
        same("nor out of tune", all.car(0, 2), 0);
    }

    private static void intervalOfSleepers() {
        checks.sentence("INTERVAL of two SLEEPERS. UNKNOWN (one twice)");
        SnoreCars x = of("k1;" + Trains.sleepers(7) + "s5 0 0 0 0;");
        same("interval(0, 7)", x.interval(0, 7), 5);
        same("interval(7, 0)", x.interval(7, 0), 5);
        same("interval(0, 6): like pitches", x.interval(0, 6), 0);
        same("interval(0, 8)", x.interval(0, 8), UNKNOWN);
        same("interval(8, 0)", x.interval(8, 0), UNKNOWN);
        same("interval(-1, 0)", x.interval(-1, 0), UNKNOWN);
        same("interval(0, -1)", x.interval(0, -1), UNKNOWN);
        for (int s = 0; s < 8; s++) {
            same("one twice", x.interval(s, s), UNKNOWN);
        }
    }

    private static void put() {
        checks.sentence("A SLEEPER goes into a CAR (from another one, too): where it was (NONE: the platform)."
            + " UNKNOWN, NOT: it is there, the car is full");
        SnoreCars x = of("k8,1,1,2;" + Trains.sleepers(8));
        same("put(7, 3)", x.put(7, 3), NONE);
        same("put(0, 3): the last berth", x.put(0, 3), NONE);
        same("put(1, 3): full", x.put(1, 3), NOT);
        same("put(7, 3): it is there", x.put(7, 3), NOT);
        same("put(7, 0)", x.put(7, 0), 3);
        same("put(7, 0): it is there, berths are free", x.put(7, 0), NOT);
        same("put(1, 3): a berth is free again", x.put(1, 3), NONE);
        same("put(0, 0)", x.put(0, 0), 3);
        same("put(0, 3)", x.put(0, 3), 0);
        same("put(8, 0)", x.put(8, 0), UNKNOWN);
        same("put(-1, 0)", x.put(-1, 0), UNKNOWN);
        same("put(0, 4)", x.put(0, 4), UNKNOWN);
        same("put(0, -1)", x.put(0, -1), UNKNOWN);
        same("car 3", x.car(3, 1), 3);
    }

    private static void off() {
        checks.sentence("A SLEEPER goes to the platform: where it was. UNKNOWN, NOT: it is there");
        SnoreCars x = of("k8,1,1,2;" + Trains.sleepers(8), 0, NONE, NONE, NONE, NONE, NONE, NONE, 3);
        same("off(0)", x.off(0), 0);
        same("off(0) again", x.off(0), NOT);
        same("off(7)", x.off(7), 3);
        same("off(7) again", x.off(7), NOT);
        same("off(8)", x.off(8), UNKNOWN);
        same("off(-1)", x.off(-1), UNKNOWN);
        same("platform", x.told(7), 255);
    }

    private static void hour() {
        checks.sentence("n HOURS (1 .. 12; till morning): the HOUR. OUTSIDE, NOT: no CARS, it is morning");
        for (int n = 1; n <= 12; n++) {
            same("hour(" + n + ")", of("k1;").hour(n), n);
        }
        int[] odd = {0, 13, -1, LOWEST, HIGHEST};
        for (int n : odd) {
            same("hour(" + n + ")", of("k1;").hour(n), OUTSIDE);
            same("hour(" + n + ") without cars", new SnoreCars().hour(n), OUTSIDE);
        }
        same("hour(1) without cars", new SnoreCars().hour(1), NOT);
        SnoreCars x = of("k1;");
        x.hour(10);
        same("till morning", x.hour(3), 12);
        same("in the morning", x.hour(12), NOT);
        x.undo();
        same("hour(2) to the morning", x.hour(2), 12);
        x.undo();
        same("hour(1)", x.hour(1), 11);
        same("hour(12)", x.hour(12), 12);
    }

    private static void evening() {
        checks.sentence("A new evening: how many were AWAKE. NOT: no CARS");
        same("no cars", new SnoreCars().evening(), NOT);
        same("a car, no sleepers", of("k1;").evening(), 0);
        StringBuilder eight = new StringBuilder("k8;i6;");
        for (int s = 0; s < 8; s++) {
            eight.append("s0 9 0 0 1;");
        }
        SnoreCars x = of(eight.toString(), 0, 0, 0, 0, 0, 0, 0, 0);
        same("at hour 0 nobody was", x.evening(), 0);
        x.hour(12);
        same("all were, in the morning", x.evening(), 8);
    }

    private static void drift() {
        checks.sentence("n HOURS BY DRAWS (1 .. 12; till morning): the HOUR. OUTSIDE, NOT: no CARS, no SLEEPERS, it is"
            + " morning");
        for (int n = 1; n <= 12; n++) {
            same("drift(" + n + ")", of("k1;s0 0 0 0 0;").drift(n), n);
        }
        int[] odd = {0, 13, -1, LOWEST, HIGHEST};
        for (int n : odd) {
            same("drift(" + n + ")", of(TWO).drift(n), OUTSIDE);
            same("drift(" + n + ") without sleepers", of("k1;").drift(n), OUTSIDE);
            same("drift(" + n + ") without cars", new SnoreCars().drift(n), OUTSIDE);
        }
        same("without cars", new SnoreCars().drift(1), NOT);
        same("without sleepers", of("k1;").drift(1), NOT);
        SnoreCars x = of(TWO);
        x.hour(12);
        same("in the morning", x.drift(12), NOT);
        same("no draw by what is refused", x.seed(0), 0);
    }

    private static int next(int seed) {
        return (int) ((seed * 1103515245L + 12345L) % 2147483648L);
    }

    private static int draw(int seed, int n) {
        return seed / 65536 % n;
    }

    /** The seed behind hours by draws of the sleepers. */
    private static int behind(int seed, int hours, int sleepers) {
        int then = seed;
        for (int h = 0; h < hours; h++) {
            then = next(then);
            if (draw(then, 5) == 0) {
                then = next(then);
            }
        }
        return then;
    }

    private static void driftTillMorning() {
        checks.sentence("n HOURS (till morning): ahead of each a DRAW of 5");
        for (int seed = 0; seed < 40; seed++) {
            SnoreCars x = of("k1;s0 0 0 0 0;s0 0 0 0 0;");
            x.hour(9);
            x.seed(seed);
            same("drift(4) at hour 9", x.drift(4), 12);
            same("three hours of draws, none of the morning", x.seed(0), behind(seed, 3, 2));
        }
    }

    private static void seeds() {
        checks.sentence("THE SEED (0 at first: each DRAW it becomes it times 1103515245 and 12345, left over by 2 to the"
            + " 31)");
        SnoreCars x = of("k1;s0 0 0 0 0;");
        same("0 times, and 12345: its draw is 0 / 65536, so another one of 1", x.drift(1), 1);
        same("12345 times 1103515245 and 12345: 1406932606", x.seed(1), 1406932606);
        x.drift(1);
        same("1103515245 and 12345", x.seed(HIGHEST), 1103527590);
        x.drift(1);
        same("from 2147483647, by hand: 2147483648 less 1103515245 and 12345", x.seed(0), 1043980748);
        same("that of 1103527590 by 5: 16838 leaves 3, no second draw", draw(1103527590, 5), 3);
    }

    private static void drawOfFive() {
        checks.sentence("the DRAW of n is it / 65536, left over by n; a DRAW of 5: on 0");
        boolean[] seen = new boolean[5];
        for (int seed = 0; seed < 200; seed++) {
            SnoreCars x = of("k2;s0 9 40 0 1;s1 9 0 0 1;", 0, 0);
            x.hour(1);
            x.off(1);
            x.seed(seed);
            x.drift(1);
            int five = draw(next(seed), 5);
            seen[five] = true;
            boolean asleep = five == 0 && draw(next(next(seed)), 2) == 1;
            same("awake by seed " + seed + ", a draw of " + five, x.told(6), asleep ? 0 : 2);
            same("the seed", x.seed(0), behind(seed, 1, 2));
        }
        for (int five = 0; five < seen.length; five++) {
            checks.holds("a draw of " + five + " was seen", seen[five]);
        }
    }

    private static void drawOfSleepers() {
        checks.sentence("a DRAW of SLEEPERS, if AWAKE, falls asleep again");
        for (int many = 2; many <= 8; many++) {
            StringBuilder text = new StringBuilder("k8;i6;");
            int[] lying = new int[many];
            for (int s = 0; s < many; s++) {
                text.append("s0 9 0 0 1;");
            }
            boolean[] seen = new boolean[many];
            for (int seed = 0; seed < 500; seed++) {
                if (draw(next(seed), 5) == 0) {
                    SnoreCars x = of(text.toString(), lying);
                    x.hour(1);
                    x.seed(seed);
                    x.drift(1);
                    int whom = draw(next(next(seed)), many);
                    seen[whom] = true;
                    same("of " + many + ", seed " + seed, x.told(6), (1 << many) - 1 & ~(1 << whom));
                }
            }
            for (int s = 0; s < many; s++) {
                checks.holds(s + " of " + many + " was drawn", seen[s]);
            }
        }
    }

    private static void fallsAsleepAgain() {
        checks.sentence("ahead of each (the hour itself passes as hour() lets it)");
        SnoreCars lulled = of("k2;s1 9 0 0 12;s0 9 40 0 12;", 0, 0);
        lulled.hour(1);
        same("awake", lulled.told(6), 1);
        lulled.seed(0);
        lulled.drift(1);
        same("seed 0 draws 0 of 5", draw(12345, 5), 0);
        same("then 1 of 2", draw(1406932606, 2), 0);
        same("asleep ahead of the hour, woken in it", lulled.told(6), 1);
        SnoreCars snoring = of("k3;s1 9 0 0 12;s0 9 40 0 1;s2 9 0 1 1;", 0, 0, NONE);
        snoring.hour(1);
        same("0 is awake", snoring.told(6), 1);
        snoring.put(2, 0);
        int seed = 0;
        while (draw(next(seed), 5) != 0 || draw(next(next(seed)), 3) != 0) {
            seed++;
        }
        snoring.seed(seed);
        snoring.drift(1);
        same("asleep ahead of the hour, it snores in it and wakes 2", snoring.told(6), 4);
    }

    private static void undo() {
        checks.sentence("The latest is undone: how many more can be. NOT: none");
        SnoreCars x = of("k2,2;s0 9 40 0 12;s1 9 0 0 12;");
        same("none", x.undo(), NOT);
        x.put(0, 0);
        x.put(1, 0);
        x.drift(2);
        x.hour(1);
        x.evening();
        x.off(1);
        same("six", x.told(9), 6);
        same("off()", x.undo(), 5);
        same("in its car", x.sleeper(1, 5), 0);
        same("evening()", x.undo(), 4);
        same("the hour", x.told(5), 3);
        same("awake", x.told(6), 2);
        same("hour()", x.undo(), 3);
        same("the hour", x.told(5), 2);
        int seed = x.seed(5);
        same("drift()", x.undo(), 2);
        same("the hour", x.told(5), 0);
        same("awake", x.told(6), 0);
        same("THE SEED stays", x.seed(seed), 5);
        same("put()", x.undo(), 1);
        same("where it was", x.sleeper(1, 5), NONE);
        same("put()", x.undo(), 0);
        same("none", x.undo(), NOT);
        same("platform", x.told(7), 3);
    }

    private static void twentyAreKept() {
        checks.sentence("20 at most are kept, the oldest are lost");
        for (int done = 19; done <= 43; done++) {
            SnoreCars x = of("k1;");
            for (int n = 0; n < done; n++) {
                same("hour or evening", n % 13 == 12 ? x.evening() : x.hour(1), n % 13 == 12 ? 0 : n % 13 + 1);
            }
            int kept = Math.min(done, 20);
            same("kept of " + done, x.told(9), kept);
            for (int n = 1; n <= kept; n++) {
                same("undo() " + n + " of " + done, x.undo(), kept - n);
                same("the hour then", x.told(5), (done - n) % 13);
            }
            same("nothing more of " + done, x.undo(), NOT);
            same("the hour stays", x.told(5), (done - kept) % 13);
            same("done anew", x.evening(), 0);
            same("kept anew", x.told(9), 1);
        }
    }

    private static void undoneIsNot() {
        checks.sentence("that was not refused (the others are not kept, nor are feed(), write(), tear(), seed())");
        SnoreCars x = of(TWO, 0);
        same("put() of one there", x.put(0, 0), NOT);
        same("off() of one there", x.off(1), NOT);
        same("hour(0)", x.hour(0), OUTSIDE);
        same("drift(13)", x.drift(13), OUTSIDE);
        same("put() of nobody", x.put(2, 0), UNKNOWN);
        x.feed('k');
        x.write(0, true);
        x.tear();
        x.seed(4);
        same("one is kept", x.told(9), 1);
        same("undo()", x.undo(), 0);
        same("the text stays", x.told(4), 1);
        same("the seed stays", x.seed(0), 4);
    }
}
