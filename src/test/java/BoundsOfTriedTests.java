/** "3 TRIED" and promises 15 to 24: each sentence that names a bound, on the bound and just beyond it. */
public final class BoundsOfTriedTests {
    private static final int NONE = SnoreCars.NONE, UNKNOWN = SnoreCars.UNKNOWN, OUTSIDE = SnoreCars.OUTSIDE;
    private static final int LOWEST = Integer.MIN_VALUE, HIGHEST = Integer.MAX_VALUE;
    /** No number of a sleeper, of a car, of what can be asked. */
    private static final int[] ODD = {-1, LOWEST, HIGHEST, 1 << 20};
    /** Both wake at hour 0 if they lie together. */
    private static final String TWO_WAKE = "s0 9 0 0 12;s1 9 0 0 12;";

    private static final Checks checks = new Checks("BoundsOfTriedTests");

    private BoundsOfTriedTests() {
    }

    public static void main(String[] args) {
        wake();
        wakeOfAwake();
        wakeInEachCar();
        wakeByEachHour();
        wakeByOneAfterAnother();
        shunted();
        shuntedByHoursThenNumbers();
        shuntedByWhoSnoresThen();
        madeUpBerths();
        madeUpCouples();
        madeUpFirstOfLike();
        madeUpWithoutSleepers();
        madeUpFromNewEvening();
        madeUpOfWhom();
        noMove();
        oneMove();
        twoMoves();
        freeBerth();
        exchange();
        numbersOfMoves();
        eachPut();
        eachExchange();
        movesInOrder();
        movesNow();
        movesOfWhom();
        lawsOfIntervals();
        lawsFewestThenLeast();
        lawsFromNewEvening();
        lawsOfWhom();
        pitchesToEleven();
        testPitch();
        pitchesFromNewEvening();
        pitchesOfWhom();
        bestCarFree();
        bestCarOfLike();
        worth();
        bestCarOfWhom();
        alikeByNoneToEleven();
        alikeAsOften();
        alikeOfWhich();
        soundsOfHours();
        soundsOfPitches();
        soundsOfWhich();
        coldOfNoneToAll();
        coldIsCut();
        coldOfWhom();
        nothingChanges();
        trainAfterTrain();
        checks.end();
    }

    private static void same(String what, long got, long due) {
        checks.same(what, got, due);
    }

    private static SnoreCars of(String text, int... cars) {
        return Trains.lying(Trains.of(text), cars);
    }

    private static void wake() {
        checks.sentence("WAKE till morning: SLEEPERS AWAKE then, all staying where they are (a SET)");
        SnoreCars x = of("k8;" + Trains.sleepers(6) + "s0 9 40 11 12;s1 0 8 0 0;", 0, 0, 0, 0, 0, 0, 0, 0);
        same("hour 11 counts; bit 7", x.wake(), 128);
        x.hour(11);
        same("at hour 11", x.wake(), 128);
        x.off(7);
        same("on the platform nobody wakes", x.wake(), 0);
        SnoreCars past = of("k2;s0 9 40 2 3;s1 0 8 0 0;", 0, 0);
        past.hour(2);
        same("his hour is still to come", past.wake(), 2);
        past.off(0);
        past.hour(1);
        past.put(0, 0);
        same("his hour is past", past.wake(), 0);
        same("no cars", new SnoreCars().wake(), 0);
    }

    private static void wakeOfAwake() {
        checks.sentence("SLEEPERS AWAKE then (who is AWAKE now still is, on the platform and in the morning, too)");
        SnoreCars x = of("k2;" + TWO_WAKE, 0, 0);
        x.hour(1);
        x.off(1);
        same("on the platform", x.wake(), 3);
        x.hour(12);
        same("in the morning", x.wake(), 3);
        SnoreCars morning = of("k2;" + TWO_WAKE, 0);
        morning.hour(12);
        morning.put(1, 0);
        same("in the morning nobody more", morning.wake(), 0);
    }

    private static void wakeInEachCar() {
        checks.sentence("SLEEPERS AWAKE then (of all CARS; who is AWAKE does not SNORE)");
        for (int k = 0; k < 4; k++) {
            SnoreCars x = of("k3,3,3,3;" + TWO_WAKE + "s0 9 40 0 12;s1 0 8 0 0;", k, k, 3 - k);
            same("both in car " + k, x.wake(), 3);
            same("till morning", x.hour(12), 12);
            same("awake then", x.told(6), 3);
            x.evening();
            x.put(3, 3 - k);
            same("and one of two in car " + (3 - k), x.wake(), 11);
            x.hour(1);
            same("awake behind an hour", x.told(6), 11);
        }
        SnoreCars silent = of("k3,1;s0 9 8 0 12;s1 9 40 0 1;s1 0 8 0 12;", 0, 0);
        silent.hour(1);
        same("0 is awake", silent.told(6), 1);
        silent.put(2, 0);
        same("and wakes nobody more", silent.wake(), 1);
        silent.hour(12);
        same("nor has it", silent.told(6), 1);
        silent.evening();
        same("from a new evening both wake", silent.wake(), 5);
    }

    private static void wakeByEachHour() {
        checks.sentence("WAKE till morning (by who SNORES at each HOUR to come)");
        SnoreCars later = of("k2;s0 9 8 0 12;s1 9 40 1 12;", 0, 0);
        same("at hour 1 both snore, as they do from then on", later.wake(), 1);
        SnoreCars between = of("k2;s0 0 8 0 0;s1 9 40 5 6;", 0, 0);
        same("one hour in which somebody does", between.wake(), 1);
        SnoreCars growing = of("k3;s0 0 17 0 0;s1 9 40 0 12;s1 9 40 4 5;", 0, 0, 0);
        same("two together in one hour", growing.wake(), 1);
        SnoreCars turns = of("k3;s0 0 17 0 0;s1 9 40 0 4;s1 9 40 4 12;", 0, 0, 0);
        same("two, never together", turns.wake(), 0);
        for (int h = 0; h < 12; h++) {
            for (int set = 1; set < 16; set++) {
                StringBuilder text = new StringBuilder("k5;");
                for (int s = 0; s < 4; s++) {
                    text.append("s0 9 40 ").append(h).append(' ').append(h + (set >> s & 1)).append(';');
                }
                same("by " + set + " at hour " + h, of(text + "s1 0 8 0 0;", 0, 0, 0, 0, 0).wake(), 16);
            }
        }
    }

    private static void wakeByOneAfterAnother() {
        checks.sentence("WAKE till morning (one HOUR wakes nobody, a later one does)");
        for (int n = 0; n < 4 * 3 * 66; n++) {
            int low = n % 4;
            int loud = (low + 1 + n / 4 % 3) % 4;
            int rest = n / 12;
            int late = 1;
            while (rest >= late) {
                rest -= late;
                late++;
            }
            StringBuilder text = new StringBuilder("k5;");
            for (int s = 0; s < 4; s++) {
                int hour = s == low ? rest : late;
                text.append('s').append(s == low ? "0 1 40 " : "0 9 40 ").append(hour).append(' ')
                    .append(s == low || s == loud ? hour + 1 : hour).append(';');
            }
            SnoreCars x = of(text + "s1 0 8 0 0;", 0, 0, 0, 0, 0);
            for (int h = 0; h <= late; h++) {
                same(low + " at hour " + rest + ", then " + loud + " at hour " + late + "; now " + h, x.wake(), 16);
                x.hour(1);
            }
            same("awake behind it", x.told(6), 16);
        }
    }

    private static void shunted() {
        checks.sentence("SHUNTED: the first CAR OUT OF TUNE from now on: its HOUR; CAR; NONE");
        SnoreCars first = of("k1,1,1,2;s0 0 0 0 1;s1 0 0 0 1;", 3, 3);
        same("hour 0", first.shunted(0), 0);
        same("car 3", first.shunted(1), 3);
        first.hour(1);
        same("none, from hour 1 on", first.shunted(0), NONE);
        same("none, from hour 1 on", first.shunted(1), NONE);
        SnoreCars last = of("k2;s0 0 0 11 12;s1 0 0 11 12;", 0, 0);
        same("hour 11", last.shunted(0), 11);
        last.hour(11);
        same("now", last.shunted(0), 11);
        same("car 0", last.shunted(1), 0);
        last.hour(1);
        same("none in the morning", last.shunted(0), NONE);
        same("none in the morning", last.shunted(1), NONE);
        checks.sentence("SHUNTED: what = 0 HOUR, 1 CAR; NONE. OUTSIDE");
        same("shunted(2)", last.shunted(2), OUTSIDE);
        for (int odd : ODD) {
            same("shunted(" + odd + ")", last.shunted(odd), OUTSIDE);
        }
        same("no cars", new SnoreCars().shunted(1), NONE);
    }

    private static void shuntedByHoursThenNumbers() {
        checks.sentence("(by HOURS, then by number)");
        SnoreCars x = of("k2,2,2;s0 0 0 4 5;s1 0 0 4 5;s0 0 0 3 4;s1 0 0 3 4;s0 0 0 3 5;s1 0 0 3 5;", 0, 0, 1, 1, 2, 2);
        same("hour 3 ahead of hour 4", x.shunted(0), 3);
        same("car 1 ahead of car 2", x.shunted(1), 1);
        x.hour(4);
        same("hour 4", x.shunted(0), 4);
        same("car 0 ahead of car 2", x.shunted(1), 0);
    }

    private static void shuntedByWhoSnoresThen() {
        checks.sentence("from now on (who has woken by then does not SNORE)");
        SnoreCars x = of("k3;s0 9 40 0 1;s1 0 8 1 3;s2 0 40 2 3;", 0, 0, 0);
        same("1 wakes at hour 0", x.shunted(0), NONE);
        SnoreCars deeper = of("k3;s0 9 40 0 1;s1 0 9 1 3;s2 0 40 2 3;", 0, 0, 0);
        same("1 sleeps on", deeper.shunted(0), 2);
        SnoreCars later = of("k3,1;s0 9 40 3 4;s1 0 8 4 6;s2 0 40 5 6;", 0, 0, 0);
        same("1 wakes at hour 3", later.shunted(0), NONE);
        later.hour(3);
        same("1 wakes now", later.shunted(1), NONE);
        later.off(0);
        later.hour(1);
        same("1 was not woken", later.shunted(0), 5);
        SnoreCars early = of("k3;s0 9 40 0 1;s1 0 8 4 6;s2 0 40 5 6;", 0, 0);
        early.hour(1);
        early.put(2, 0);
        same("1 is awake now", early.shunted(0), NONE);
        SnoreCars other = of("k2,2;s0 9 40 2 3;s1 0 8 7 8;s0 0 40 7 8;s1 0 40 7 8;", 0, 0, 1, 1);
        same("car 0 has woken one, car 1 has not", other.shunted(0), 7);
        same("car 1", other.shunted(1), 1);
    }

    private static void madeUpBerths() {
        checks.sentence("MADE UP anew: each SLEEPER in a CAR, none over its BERTHS: how many; the CAR; NONE");
        for (int many = 1; many <= 8; many++) {
            SnoreCars x = of("k4,2;" + Trains.sleepers(many));
            same("of " + many, x.madeUp(NONE), many <= 6 ? 0 : NONE);
            for (int s = 0; s < many; s++) {
                same("car of " + s, x.madeUp(s), many <= 6 ? s < 4 ? 0 : 1 : NONE);
            }
        }
        SnoreCars eight = of("k1,1,1,5;" + Trains.sleepers(8));
        int[] due = {0, 1, 2, 3, 3, 3, 3, 3};
        for (int s = 0; s < due.length; s++) {
            same("of eight in four cars, " + s, eight.madeUp(s), due[s]);
        }
        same("one berth too few", of("k1,1,1,4;" + Trains.sleepers(8)).madeUp(7), NONE);
        SnoreCars alone = of("k1;s0 9 0 0 12;");
        same("one in one berth", alone.madeUp(NONE), 0);
        same("it is car 0", alone.madeUp(0), 0);
        SnoreCars crowd = of("k8;i6;" + "s0 9 0 0 1;".repeat(8));
        same("all eight have to lie together: all wake", crowd.madeUp(NONE), 8);
        same("in car 0", crowd.madeUp(7), 0);
        same("by pairs all wake, too", of("k2,2,2,2;i6;" + "s0 9 0 0 1;".repeat(8)).madeUp(NONE), 8);
    }

    private static void madeUpCouples() {
        checks.sentence("COUPLES in one CAR");
        SnoreCars x = of("k1,3;s0 9 0 0 12;s1 9 0 0 12;c0 1;");
        same("two together wake", x.madeUp(NONE), 2);
        same("0", x.madeUp(0), 1);
        same("1", x.madeUp(1), 1);
        SnoreCars single = of("k1,3;" + TWO_WAKE);
        same("no couple: none wakes", single.madeUp(NONE), 0);
        same("0", single.madeUp(0), 0);
        same("1", single.madeUp(1), 1);
        same("no two berths in one car", of("k1,1;s0 9 0 0 12;s1 9 0 0 12;c0 1;").madeUp(NONE), NONE);
        SnoreCars four = of("k1,1,2,6;" + Trains.sleepers(8) + "c0 7;c1 6;c2 5;c3 4;");
        int[] due = {2, 3, 3, 3, 3, 3, 3, 2};
        for (int s = 0; s < due.length; s++) {
            same("four couples, " + s, four.madeUp(s), due[s]);
        }
        SnoreCars between = of("k1,2;" + Trains.sleepers(3) + "c2 0;");
        same("0 and 2 lie together", between.madeUp(0), 1);
        same("1 is no part of it", between.madeUp(1), 0);
        same("2 and 0 lie together", between.madeUp(2), 1);
        same("five berths for three couples", of("k1,1,2,5;" + Trains.sleepers(8) + "c0 7;c1 6;c2 5;c3 4;").madeUp(NONE),
            NONE);
    }

    private static void madeUpFirstOfLike() {
        checks.sentence("of like ones the first (SLEEPER by SLEEPER the lesser CAR)");
        SnoreCars x = of("k3,3,3;s0 9 0 0 12;s3 0 0 0 0;s1 9 0 0 12;s2 9 0 0 12;");
        same("fewest", x.madeUp(NONE), 0);
        int[] due = {0, 0, 1, 2};
        for (int s = 0; s < due.length; s++) {
            same("car of " + s, x.madeUp(s), due[s]);
        }
        SnoreCars one = of("k2,2;s0 9 40 0 1;s1 0 8 0 0;");
        same("one wakes by the first of all, nobody by the second", one.madeUp(NONE), 0);
        same("0 by the second", one.madeUp(0), 0);
        same("1 by the second", one.madeUp(1), 1);
        SnoreCars last = of("k1,1,1,5;i0;" + "s0 9 0 0 12;".repeat(5) + "s1 9 0 0 12;s2 9 0 0 12;s3 9 0 0 12;");
        same("five of one pitch fit into the last car alone", last.madeUp(NONE), 0);
        int[] lastDue = {3, 3, 3, 3, 3, 0, 1, 2};
        for (int s = 0; s < lastDue.length; s++) {
            same("car of " + s + ", far from the first of all", last.madeUp(s), lastDue[s]);
        }
        SnoreCars couple = of("k2,3;s0 0 0 0 0;s0 0 0 0 0;s0 0 0 0 0;c0 2;");
        same("0", couple.madeUp(0), 0);
        same("1", couple.madeUp(1), 1);
        same("2, with 0", couple.madeUp(2), 0);
    }

    private static void madeUpWithoutSleepers() {
        checks.sentence("how many (without SLEEPERS 0)");
        same("cars without sleepers", of("k1;").madeUp(NONE), 0);
        same("no cars", new SnoreCars().madeUp(NONE), 0);
        SnoreCars emptied = of("k1;" + Trains.sleepers(2));
        same("a berth too few", emptied.madeUp(NONE), NONE);
        emptied.train();
        same("an empty text", emptied.madeUp(NONE), 0);
    }

    private static void madeUpFromNewEvening() {
        checks.sentence("MADE UP anew from a new evening (not from what is so now)");
        SnoreCars x = of("k2,1;s0 9 0 0 1;s1 9 0 0 1;s2 9 0 0 1;", 0, 0, 1);
        same("two of three wake", x.madeUp(NONE), 2);
        x.hour(12);
        same("though they are awake, and it is morning", x.madeUp(NONE), 2);
        same("0", x.madeUp(0), 0);
        same("2", x.madeUp(2), 1);
        SnoreCars late = of("k2;s0 9 40 11 12;s1 0 8 0 0;");
        same("till the morning, hour 11 too", late.madeUp(NONE), 1);
        SnoreCars even = of("k2;s0 9 40 11 12;s1 0 9 0 0;");
        same("noise that is not more than depth", even.madeUp(NONE), 0);
    }

    private static void madeUpOfWhom() {
        checks.sentence("MADE UP: s = NONE how many are AWAKE, else its CAR; NONE. UNKNOWN");
        SnoreCars x = of("k8;" + Trains.sleepers(8));
        same("madeUp(-1)", x.madeUp(-1), 0);
        same("madeUp(-2)", x.madeUp(-2), UNKNOWN);
        same("madeUp(0)", x.madeUp(0), 0);
        same("madeUp(7)", x.madeUp(7), 0);
        same("madeUp(8)", x.madeUp(8), UNKNOWN);
        same("madeUp(lowest)", x.madeUp(LOWEST), UNKNOWN);
        same("madeUp(highest)", x.madeUp(HIGHEST), UNKNOWN);
        same("madeUp(0) of nobody", of("k8;").madeUp(0), UNKNOWN);
    }

    private static void noMove() {
        checks.sentence("MOVES now (0 .. 2)");
        SnoreCars x = of("k1,1;" + TWO_WAKE, 0, 1);
        same("none is needed", x.moves(NONE), 0);
        same("no first", x.moves(0), NONE);
        same("without cars", new SnoreCars().moves(NONE), 0);
        same("without sleepers", of("k1;").moves(NONE), 0);
    }

    private static void oneMove() {
        checks.sentence("MOVES now (0 .. 2): the fewest; how many; the i-th; NONE");
        SnoreCars x = of("k2,1;" + TWO_WAKE, 0, 0);
        same("one", x.moves(NONE), 1);
        same("0 into car 1", x.moves(0), 1);
        same("no second", x.moves(1), NONE);
        SnoreCars none = of("k2;" + TWO_WAKE, 0, 0);
        same("no car to go to", none.moves(NONE), NONE);
        same("no first", none.moves(0), NONE);
        same("no second", none.moves(1), NONE);
    }

    private static void twoMoves() {
        checks.sentence("MOVES now (0 .. 2): two do, three would be too many");
        SnoreCars two = of("k3,1,1;i0;s0 9 0 0 12;s1 9 0 0 12;s2 9 0 0 12;", 0, 0, 0);
        same("two", two.moves(NONE), 2);
        same("0 into car 1", two.moves(0), 1);
        same("1 into car 2", two.moves(1), 12);
        same("no third", two.moves(2), NONE);
        SnoreCars three = of("k4,1,1,1;i0;s0 9 0 0 12;s1 9 0 0 12;s2 9 0 0 12;s3 9 0 0 12;", 0, 0, 0, 0);
        same("three would do", three.moves(NONE), NONE);
        same("no first", three.moves(0), NONE);
        same("without one of them two do", Trains.lying(three, 1).moves(NONE), 2);
        SnoreCars all = of("k8,1,1;i6;" + "s0 9 0 0 12;".repeat(8), 0, 0, 0, 0, 0, 0, 0, 0);
        same("all eight lie together: six still do behind two", all.moves(NONE), NONE);
        SnoreCars only = of("k8;i6;" + "s0 9 0 0 12;".repeat(8), 0, 0, 0, 0, 0, 0, 0, 0);
        same("all eight in the only car", only.moves(NONE), NONE);
    }

    private static void freeBerth() {
        checks.sentence("each puts one SLEEPER that is in a CAR into another CAR with a free BERTH");
        String four = "s0 9 0 0 12;s1 9 0 0 12;s4 0 0 0 0;s4 0 0 0 0;";
        SnoreCars free = of("k2,3;" + four, 0, 0, 1, 1);
        same("one berth is free", free.moves(0), 1);
        SnoreCars full = of("k2,2;" + four, 0, 0, 1, 1);
        same("none is: an exchange of 0 and 2", full.moves(0), 102);
        SnoreCars platform = of("k2,1;" + four, 0, 0);
        platform.put(2, 1);
        same("2 in the only berth: an exchange", platform.moves(0), 102);
        platform.off(2);
        same("it is free again", platform.moves(0), 1);
        SnoreCars nobody = of("k2;" + four, 0, 0, NONE, NONE);
        same("those on the platform are not moved, nor is one put there", nobody.moves(NONE), NONE);
    }

    private static void exchange() {
        checks.sentence("or exchanges two that are in unlike CARS; COUPLES may be split");
        SnoreCars x = of("k2,1;s0 9 0 0 12;s1 9 0 0 12;s4 0 0 0 0;c0 1;", 0, 0, 1);
        same("a couple is split", x.moves(NONE), 1);
        same("by an exchange", x.moves(0), 102);
        SnoreCars put = of("k2,1;s0 9 0 0 12;s1 9 0 0 12;c0 1;", 0, 0);
        same("or by a put", put.moves(0), 1);
        SnoreCars inOne = of("k3;s0 9 0 0 12;s1 9 0 0 12;s4 0 0 0 0;", 0, 0, 0);
        same("three in one car change nothing", inOne.moves(NONE), NONE);
    }

    private static void numbersOfMoves() {
        checks.sentence("one put into a CAR is 10 times SLEEPER and CAR, an exchange 100 and 10 times the lesser SLEEPER"
            + " and the other one");
        String silent = "s0 1 40 0 0;s0 1 40 0 0;s0 1 40 0 0;s0 1 40 0 0;s0 1 40 0 0;";
        SnoreCars put = of("k2,3,1,3;i0;" + silent + "s2 9 8 0 12;s1 9 8 0 12;s2 9 8 0 12;", 1, 1, 1, 2, NONE, 3, 0, 0);
        same("one", put.moves(NONE), 1);
        same("7 into car 3; 6 were out of tune there", put.moves(0), 73);
        SnoreCars exchange = of("k2,1;i0;" + silent + "s2 9 8 0 12;s1 9 8 0 12;s2 9 8 0 12;", NONE, NONE, NONE, NONE,
            NONE, 0, 0, 1);
        same("one", exchange.moves(NONE), 1);
        same("6 and 7; 5 and 7 were out of tune", exchange.moves(0), 167);
        SnoreCars last = of("k2,2,4,4;i0;s0 0 40 0 0;s0 0 40 0 0;s1 9 8 0 12;s1 9 8 0 12;s2 9 8 0 12;s2 9 8 0 12;"
            + "s2 9 8 0 12;s1 9 8 0 12;", 0, 1, 2, 2, 3, 3, 2, 3);
        same("one of 24 puts and 22 exchanges", last.moves(NONE), 1);
        same("the last of them all", last.moves(0), 167);
        SnoreCars least = of("k2,2;i0;s1 9 8 0 12;s2 9 8 0 12;", 1, 1);
        same("0 into car 0", least.moves(0), 0);
        SnoreCars lesser = of("k1,2;i0;s0 0 40 0 0;s1 9 8 0 12;s2 9 8 0 12;", 0, 1, 1);
        same("0 and 1", lesser.moves(0), 101);
    }

    /** Pitches and cars, sleeper by sleeper, as a train of the law i0 and these berths; all snore all night. */
    private static SnoreCars lyingBy(String berths, int[] pitches, int[] cars) {
        StringBuilder text = new StringBuilder(berths).append("i0;");
        for (int pitch : pitches) {
            text.append('s').append(pitch).append(" 9 8 0 12;");
        }
        return of(text.toString(), cars);
    }

    private static void eachPut() {
        checks.sentence("puts one SLEEPER into another CAR with a free BERTH (whoever it is, from and to whichever)");
        for (int n = 0; n < 4 * 3 * 6; n++) {
            int from = n % 4;
            int to = (from + 1 + n / 4 % 3) % 4;
            int[] pitches = new int[6];
            int[] cars = new int[6];
            int place = n / 12;
            for (int k = 0; k < 4; k++) {
                for (int side = 0; side < 2 && k != to; side++) {
                    pitches[place % 6] = k == from ? 10 + side : k;
                    cars[place % 6] = k;
                    place += 5;
                }
            }
            String berths = "k2,2,2,2;".substring(0, 2 * to + 1) + "1" + "k2,2,2,2;".substring(2 * to + 2);
            SnoreCars x = lyingBy(berths, pitches, cars);
            int first = 0;
            while (cars[first] != from) {
                first++;
            }
            same("from " + from + " to " + to, x.moves(NONE), 1);
            same("the lesser one of both", x.moves(0), 10 * first + to);
        }
    }

    private static void eachExchange() {
        checks.sentence("exchanges two that are in unlike CARS (whoever they are, in whichever)");
        for (int n = 0; n < 4 * 3 * 8; n++) {
            int one = n % 4;
            int other = (one + 1 + n / 4 % 3) % 4;
            int[] pitches = new int[8];
            int[] cars = new int[8];
            int[] mixed = new int[8];
            for (int j = 0; j < 8; j++) {
                int s = (3 * j + n / 12) % 8;
                cars[s] = j / 2;
                boolean isMixed = j / 2 == one || j / 2 == other;
                pitches[s] = isMixed ? 10 + j % 2 : j / 2;
                mixed[isMixed ? (j / 2 == one ? 0 : 2) + j % 2 : 4 + j % 4] = s;
            }
            SnoreCars x = lyingBy("k2,2,2,2;", pitches, cars);
            int low = Math.min(exchange(mixed[0], mixed[3]), exchange(mixed[1], mixed[2]));
            same("of cars " + one + " and " + other, x.moves(NONE), 1);
            same("the lesser one of two", x.moves(0), low);
        }
    }

    private static int exchange(int a, int b) {
        return 100 + 10 * Math.min(a, b) + Math.max(a, b);
    }

    private static void movesInOrder() {
        checks.sentence("the first such (by numbers: the first one, then the second one by these)");
        SnoreCars both = of("k2,2;i0;s1 9 8 0 12;s2 9 8 0 12;s0 0 40 0 0;", 0, 0, 1);
        same("a put ahead of an exchange", both.moves(0), 1);
        SnoreCars pairs = of("k2,2,1,1;i0;s1 9 8 0 12;s2 9 8 0 12;s1 9 8 0 12;s3 9 8 0 12;", 0, 0, 1, 1);
        same("two", pairs.moves(NONE), 2);
        same("0 into car 2", pairs.moves(0), 2);
        same("then 2 into car 0: 1 and 2 would be out of tune; 2 into car 3", pairs.moves(1), 23);
        SnoreCars tried = of("k4,1,1;i0;s1 9 8 0 12;s1 9 8 0 12;s2 9 8 0 12;s3 9 8 0 12;", 0, 0, 0, 0);
        same("two", tried.moves(NONE), 2);
        same("0 and 1 stay: 2 into car 1", tried.moves(0), 21);
        same("then 3 into car 2", tried.moves(1), 32);
        SnoreCars mixed = of("k2,2,2,1;i0;s1 9 8 0 12;s2 9 8 0 12;s1 9 8 0 12;s2 9 8 0 12;s3 9 8 0 12;s4 9 8 0 12;",
            0, 0, 1, 1, 2, 2);
        same("a put and an exchange", mixed.moves(NONE), 2);
        same("4 into car 3", mixed.moves(0), 43);
        same("then 0 and 3, ahead of 1 and 2", mixed.moves(1), 103);
        SnoreCars back = of("k2,2,1;i0;s1 9 8 0 12;s2 9 8 0 12;s2 9 8 0 12;s1 9 8 0 12;", 0, 0, 1, 1);
        same("one exchange is fewer than two puts", back.moves(NONE), 1);
        same("0 and 2", back.moves(0), 102);
    }

    private static void movesNow() {
        checks.sentence("by which nobody who is not AWAKE now wakes till morning");
        SnoreCars x = of("k3,1;s0 9 40 0 1;s1 0 8 0 12;s1 9 40 11 12;", 0, 0);
        same("1 would wake", x.moves(NONE), 1);
        x.hour(1);
        same("1 is awake now", x.moves(NONE), 0);
        SnoreCars late = of("k3,1;s0 9 40 11 12;s1 0 8 0 0;", 0, 0);
        late.hour(11);
        same("at hour 11 still", late.moves(NONE), 1);
        late.hour(1);
        same("in the morning none is needed", late.moves(NONE), 0);
        SnoreCars awake = of("k2,1,1;s0 9 40 0 12;s1 0 8 0 0;s2 9 8 0 0;", 0, 0, 1);
        awake.hour(1);
        awake.off(1);
        awake.put(2, 0);
        same("1 is awake; 0 and 2: 0 into car 1", awake.moves(0), 1);
        awake.put(1, 1);
        same("one that is awake is moved, too: 0 into car 2 is first", awake.moves(0), 2);
    }

    private static void movesOfWhom() {
        checks.sentence("MOVES: i = NONE how many, else the i-th; NONE (i below NONE, too)");
        SnoreCars x = of("k3,1,1;i0;s0 9 0 0 12;s1 9 0 0 12;s2 9 0 0 12;", 0, 0, 0);
        same("moves(-1)", x.moves(-1), 2);
        same("moves(-2)", x.moves(-2), NONE);
        same("moves(lowest)", x.moves(LOWEST), NONE);
        same("moves(1)", x.moves(1), 12);
        same("moves(2)", x.moves(2), NONE);
        same("moves(highest)", x.moves(HIGHEST), NONE);
    }

    private static void lawsOfIntervals() {
        checks.sentence("LAWS: SETS of INTERVALS 0 .. 6: how many; the one of fewest; NONE");
        for (int i = 0; i <= 6; i++) {
            SnoreCars x = of("k2;s0 9 8 0 12;s" + i + " 9 8 0 12;", 0, 0);
            same("without interval " + i, x.laws(3, 0), 64);
            same("the empty set", x.laws(3, 1), 0);
            same("with interval " + i, x.laws(0, 0), 64);
            same("that alone", x.laws(0, 1), 1 << i);
            same("one of both: none", x.laws(1, 0), 0);
            same("one of both: none", x.laws(2, 1), NONE);
        }
        same("nobody there: all of them", of("k1;").laws(0, 0), 128);
        SnoreCars all = of("k8;s0 1 0 0 1;s0 1 0 0 1;s1 1 0 0 1;s2 1 0 0 1;s3 1 0 0 1;s4 1 0 0 1;s5 1 0 0 1;s6 1 0 0 1;",
            0, 0, 0, 0, 0, 0, 0, 0);
        same("nobody: all seven have to be in tune", all.laws(0, 0), 1);
        same("the greatest of all", all.laws(0, 1), 127);
    }

    private static void lawsFewestThenLeast() {
        checks.sentence("the one of fewest, of like ones the least");
        SnoreCars least = of("k3;s0 9 8 0 12;s2 0 8 0 0;s3 9 8 0 12;", 0, 0, 0);
        same("1, 2, 3: all in tune", least.laws(0, 1), 2 + 4 + 8);
        SnoreCars like = of("k4;s0 0 3 0 0;s5 2 40 0 12;s2 2 40 0 12;", 0, 0, 0);
        same("2 or 5 would do: 2", like.laws(0, 1), 4);
        SnoreCars fewest = of("k4;s0 0 4 0 1;s0 2 40 0 1;s1 2 40 0 1;s2 4 40 0 1;", 0, 0, 0, 0);
        same("2 alone, though 0 and 1 are less", fewest.laws(0, 1), 4);
    }

    private static void lawsFromNewEvening() {
        checks.sentence("from a new evening, all staying where they are, just a told SET is AWAKE in the morning");
        SnoreCars x = of("k2;s0 9 40 0 1;s1 0 8 0 0;", 0, 0);
        x.hour(12);
        same("awake now", x.told(6), 2);
        same("nobody, from a new evening", x.laws(0, 0), 64);
        same("just 1", x.laws(2, 0), 64);
        x.off(1);
        same("1 stays on the platform", x.laws(2, 0), 0);
        SnoreCars late = of("k2;s0 9 40 11 12;s1 0 8 0 0;", 0, 0);
        same("hour 11 counts", late.laws(2, 0), 64);
        late.hour(12);
        same("from the morning, too", late.laws(2, 0), 64);
    }

    private static void lawsOfWhom() {
        checks.sentence("LAWS: what = 0 how many, 1 the one of fewest (NONE). UNKNOWN, OUTSIDE");
        for (int many = 0; many <= 8; many++) {
            SnoreCars x = of("k1;" + Trains.sleepers(many));
            same("all of " + many, x.laws((1 << many) - 1, 0), many == 0 ? 128 : 0);
            same("a bit more than " + many, x.laws(1 << many, 0), UNKNOWN);
            same("that bit and others", x.laws((2 << many) - 1, 1), UNKNOWN);
        }
        SnoreCars x = of("k1;" + Trains.sleepers(8));
        same("laws(-1, 0)", x.laws(-1, 0), UNKNOWN);
        same("laws(lowest, 0)", x.laws(LOWEST, 0), UNKNOWN);
        same("laws(0, 2)", x.laws(0, 2), OUTSIDE);
        for (int odd : ODD) {
            same("laws(0, " + odd + ")", x.laws(0, odd), OUTSIDE);
        }
    }

    private static void pitchesToEleven() {
        checks.sentence("PITCHES of a SLEEPER (0 .. 11) by which just a told SET is AWAKE: a SET of PITCHES");
        for (int p = 0; p < 12; p++) {
            SnoreCars x = of("k2;i0;s" + p + " 9 40 0 12;s5 0 8 0 0;", 0, 0);
            same("in tune with " + p, x.pitches(1, 0, 0), 1 << p);
            same("out of tune with " + p, x.pitches(1, 2, 0), 4095 & ~(1 << p));
            same("never", x.pitches(1, 1, 0), 0);
        }
        same("all", of("k1;s5 0 0 0 0;").pitches(0, 0, 0), 4095);
        SnoreCars heard = of("k2;i0;s4 0 8 0 0;s7 9 40 0 12;", 0, 0);
        same("the pitch of the one that snores", heard.pitches(1, 0, 0), 1 << 4);
    }

    private static void testPitch() {
        checks.sentence("TEST: of that SET the least and the greatest PITCH (unlike): the least PITCH t (0 .. 11) that is"
            + " IN TUNE with just one of both; NONE");
        SnoreCars one = of("k2;i0;s7 9 40 0 12;s5 0 8 0 0;", 0, 0);
        same("one pitch, not two", one.pitches(1, 0, 1), NONE);
        same("0 and 11 by law 0: 0", one.pitches(1, 2, 1), 0);
        same("no pitch", one.pitches(1, 1, 1), NONE);
        SnoreCars first = of("k2;i0;s0 9 40 0 12;s5 0 8 0 0;", 0, 0);
        same("pitch 0 alone", first.pitches(1, 0, 0), 1);
        same("is not two", first.pitches(1, 0, 1), NONE);
        SnoreCars none = of("k1;i0,1,2,3,4,5,6;s0 0 0 0 0;");
        same("all are in tune with both", none.pitches(0, 0, 1), NONE);
        SnoreCars late = of("k3;i6;s0 0 5 0 0;s10 5 40 0 12;s11 5 40 0 12;", 0, 0, 0);
        same("4 and 5", late.pitches(0, 0, 0), 16 + 32);
        same("10 is 6 from 4; 11 is 6 from 5", late.pitches(0, 0, 1), 10);
        SnoreCars far = of("k2;i5;s6 9 40 0 12;s0 0 8 0 0;", 0, 0);
        same("1 and 11, 5 from 6", far.pitches(1, 0, 0), 2 + 2048);
        same("4 is 5 from 11, 3 from 1", far.pitches(1, 0, 1), 4);
        SnoreCars both = of("k2;i6;s6 9 40 0 12;s0 0 8 0 0;", 0, 0);
        same("1 and 11 of 1 to 11: 5 is 6 from 11", both.pitches(1, 2, 1), 5);
    }

    private static void pitchesFromNewEvening() {
        checks.sentence("from a new evening likewise");
        SnoreCars x = of("k2;i0;s3 9 40 0 1;s5 0 8 0 0;", 0, 0);
        x.hour(12);
        same("awake now", x.told(6), 2);
        same("nobody, from a new evening", x.pitches(1, 0, 0), 8);
        SnoreCars late = of("k2;i0;s3 9 40 11 12;s5 0 8 0 0;", 0, 0);
        same("hour 11 counts", late.pitches(1, 2, 0), 4095 - 8);
        late.off(1);
        same("it stays on the platform", late.pitches(1, 2, 0), 0);
        same("nothing changes", late.sleeper(1, 0), 5);
    }

    private static void pitchesOfWhom() {
        checks.sentence("PITCHES: what = 0 the SET, 1 TEST (NONE). UNKNOWN, OUTSIDE");
        SnoreCars x = of("k1;" + Trains.sleepers(8));
        same("pitches(7, 255, 0)", x.pitches(7, 255, 0), 0);
        same("pitches(8, 0, 0)", x.pitches(8, 0, 0), UNKNOWN);
        same("pitches(7, 256, 0)", x.pitches(7, 256, 0), UNKNOWN);
        same("pitches(7, -1, 0)", x.pitches(7, -1, 0), UNKNOWN);
        same("pitches(7, 0, 2)", x.pitches(7, 0, 2), OUTSIDE);
        for (int odd : ODD) {
            same("of nobody", x.pitches(odd, 0, 0), UNKNOWN);
            same("pitches(0, 0, " + odd + ")", x.pitches(0, 0, odd), OUTSIDE);
        }
        SnoreCars two = of("k1;" + Trains.sleepers(2));
        same("of two", two.pitches(1, 3, 0), 0);
        same("a bit more than two", two.pitches(1, 4, 0), UNKNOWN);
        same("one more than two", two.pitches(2, 0, 0), UNKNOWN);
    }

    private static void bestCarFree() {
        checks.sentence("BEST CAR for a SLEEPER (others stay; BERTHS free, or its own; also from the platform); NONE: none"
            + " is free");
        String four = "s0 9 8 0 12;s1 9 8 0 12;s0 0 40 0 0;s0 0 40 0 0;";
        SnoreCars own = of("k2,1;" + four, 0, 0, 1);
        same("its own, full", own.bestCar(0, 0), 0);
        same("no worse one is free", own.bestCar(0, 1), 0);
        same("from the platform: none is free", own.bestCar(3, 0), NONE);
        same("from the platform: none is free", own.bestCar(3, 1), NONE);
        same("2's own", own.bestCar(2, 0), 1);
        own.off(2);
        same("car 1 is free for 0", own.bestCar(0, 0), 1);
        same("two fewer than in its own", own.bestCar(0, 1), 2);
        same("car 1 is free for 3", own.bestCar(3, 0), 1);
        SnoreCars last = of("k1,1,1,2;" + four, 0, 1, 2, 3);
        same("one berth of the last car is free", last.bestCar(0, 0), 0);
        same("it is its own", last.bestCar(3, 0), 3);
        same("no cars, nobody", new SnoreCars().bestCar(0, 0), UNKNOWN);
    }

    private static void bestCarOfLike() {
        checks.sentence("by which fewest are AWAKE in the morning; of like ones the least: CAR");
        String three = "s0 9 8 0 12;s1 9 8 0 12;s0 0 40 0 0;";
        SnoreCars x = of("k2,2,2,2;" + three, 2, 0);
        same("1, 2 and 3 are alike: not its own, the least", x.bestCar(0, 0), 1);
        same("none of both is worse in car 0 by two", x.bestCar(0, 1), 2);
        same("one that never snores: the least", x.bestCar(2, 0), 0);
        x.hour(12);
        x.put(0, 0);
        same("from a new evening", x.bestCar(0, 0), 1);
        String six = "s0 9 40 0 1;s0 9 40 0 1;s1 0 8 0 0;s1 0 8 0 0;s1 9 8 0 1;";
        SnoreCars fewer = of("k3,4;" + six, 0, 1, 0, 1, 0);
        same("in car 0 two and one in car 1 wake, in car 1 as many: the least", fewer.bestCar(4, 0), 0);
        same("as many", fewer.bestCar(4, 1), 0);
        SnoreCars first = of("k3,4,3;s0 9 40 0 1;s1 9 40 0 1;s0 0 8 0 0;s0 0 8 0 0;s0 9 8 0 0;", 0, 1, 1, 1);
        same("two wake in car 1, with 4 there three: the first of those where it is alone or in tune",
            first.bestCar(4, 0), 0);
        same("one fewer", first.bestCar(4, 1), 1);
        first.put(1, 0);
        first.put(0, 1);
        same("4 would wake in car 0, nobody in car 1", first.bestCar(4, 0), 1);
        first.put(2, 0);
        same("2 wakes in car 0: one; with 4 there two", first.bestCar(4, 1), 1);
        same("car 1 ahead of car 2", first.bestCar(4, 0), 1);
        SnoreCars late = of("k2,2;s0 9 40 11 12;s1 0 8 0 0;", 0);
        same("hour 11 counts", late.bestCar(1, 0), 1);
        SnoreCars even = of("k2,2;s0 9 40 11 12;s1 0 9 0 0;", 0);
        same("as much noise as depth", even.bestCar(1, 0), 0);
        SnoreCars early = of("k2,2;s0 9 40 0 1;s1 0 8 0 0;", 0);
        same("hour 0 counts", early.bestCar(1, 0), 1);
    }

    private static void worth() {
        checks.sentence("WORTH of it: how many fewer than in the worst one that is free");
        SnoreCars x = of("k4,2,1;s0 9 8 0 12;s6 0 8 0 0;s6 0 8 0 0;s0 0 8 0 0;s1 0 8 0 0;", NONE, 0, 0, 1, 2);
        same("0 into car 0: two wake; car 1: none; car 2 is full", x.bestCar(0, 0), 1);
        same("two fewer", x.bestCar(0, 1), 2);
        x.off(2);
        same("one fewer", x.bestCar(0, 1), 1);
        x.off(1);
        same("no fewer", x.bestCar(0, 1), 0);
        same("the least then", x.bestCar(0, 0), 0);
        x.off(4);
        x.put(1, 2);
        x.put(2, 0);
        x.put(4, 0);
        same("car 2 is full, car 0 the worst", x.bestCar(0, 1), 2);
    }

    private static void bestCarOfWhom() {
        checks.sentence("BEST CAR: what = 0 CAR, 1 WORTH; NONE. UNKNOWN, OUTSIDE");
        SnoreCars x = of("k1;" + Trains.sleepers(8));
        same("bestCar(7, 0)", x.bestCar(7, 0), 0);
        same("bestCar(7, 1)", x.bestCar(7, 1), 0);
        same("bestCar(7, 2)", x.bestCar(7, 2), OUTSIDE);
        same("bestCar(8, 0)", x.bestCar(8, 0), UNKNOWN);
        for (int odd : ODD) {
            same("bestCar(" + odd + ", 0)", x.bestCar(odd, 0), UNKNOWN);
            same("bestCar(0, " + odd + ")", x.bestCar(0, odd), OUTSIDE);
        }
    }

    private static void alikeByNoneToEleven() {
        checks.sentence("ALIKE: the least d (0 .. 11) by which PITCHES of all in the second CAR, each d higher (left over"
            + " by 12), are those of all in the first CAR");
        for (int d = 0; d < 12; d++) {
            for (int p = 0; p < 12; p++) {
                SnoreCars x = of("k2,2;s" + (p + d) % 12 + " 0 0 0 0;s" + (p + d + 4) % 12 + " 0 0 0 0;s" + p
                    + " 0 0 0 0;s" + (p + 4) % 12 + " 0 0 0 0;", 0, 0, 1, 1);
                same(p + " and " + d, x.alike(0, 1), d);
                same(p + " and " + d + ", the other way", x.alike(1, 0), (12 - d) % 12);
            }
        }
        same("both empty", of("k1,1;").alike(0, 1), 0);
    }

    private static void alikeAsOften() {
        checks.sentence("each as often as it is there; NONE");
        SnoreCars x = of("k3,3;s3 0 0 0 0;s3 0 0 0 0;s8 0 0 0 0;s8 0 0 0 0;s8 0 0 0 0;s3 0 0 0 0;", 0, 0, 0, 1, 1);
        same("two and three", x.alike(0, 1), NONE);
        same("one is empty", of("k3,3;s3 0 0 0 0;", 0).alike(0, 1), NONE);
        same("the first one is empty", of("k3,3;s3 0 0 0 0;", 0).alike(1, 0), NONE);
        x.put(5, 1);
        same("twice 3 and once 8, twice 8 and once 3: by 7 they are 3, 3, 10", x.alike(0, 1), NONE);
        SnoreCars often = of("k3,3;s3 0 0 0 0;s3 0 0 0 0;s8 0 0 0 0;s9 0 0 0 0;s9 0 0 0 0;s2 0 0 0 0;", 0, 0, 0, 1, 1, 1);
        same("9, 9, 2 and 6", often.alike(0, 1), 6);
    }

    private static void alikeOfWhich() {
        checks.sentence("ALIKE; NONE. UNKNOWN (a CAR that there is not; one twice)");
        SnoreCars x = of("k1,1,1,1;");
        same("alike(0, 3)", x.alike(0, 3), 0);
        same("alike(3, 0)", x.alike(3, 0), 0);
        same("alike(0, 4)", x.alike(0, 4), UNKNOWN);
        same("alike(4, 0)", x.alike(4, 0), UNKNOWN);
        same("alike(0, 0)", x.alike(0, 0), UNKNOWN);
        same("alike(3, 3)", x.alike(3, 3), UNKNOWN);
        for (int odd : ODD) {
            same("alike(" + odd + ", 0)", x.alike(odd, 0), UNKNOWN);
            same("alike(0, " + odd + ")", x.alike(0, odd), UNKNOWN);
        }
    }

    private static void soundsOfHours() {
        checks.sentence("SOUNDS of a CAR at an HOUR of the night (0 .. 11; who is AWAKE now does not SNORE)");
        SnoreCars x = of("k2;s0 3 0 0 1;s1 4 40 11 12;", 0, 0);
        same("hour 0", x.sounds(0, 0, 1), 3);
        same("hour 1", x.sounds(0, 1, 1), 0);
        same("hour 10", x.sounds(0, 10, 1), 0);
        same("hour 11", x.sounds(0, 11, 1), 4);
        same("hour 12", x.sounds(0, 12, 1), OUTSIDE);
        same("hour -1", x.sounds(0, -1, 1), OUTSIDE);
        x.hour(12);
        same("0 has woken at hour 11", x.told(6), 1);
        same("awake now: silent at hour 0", x.sounds(0, 0, 1), 0);
        same("at hour 11 the other one", x.sounds(0, 11, 1), 4);
        x.off(1);
        same("from the platform nobody sounds", x.sounds(0, 11, 1), 0);
    }

    private static void soundsOfPitches() {
        checks.sentence("PITCHES that SNORE (a SET); all LOUD together; the BASS: the least PITCH that SNORES, NONE");
        for (int p = 0; p < 12; p++) {
            SnoreCars x = of("k1;s" + p + " 0 0 0 1;", 0);
            same("the set of " + p, x.sounds(0, 0, 0), 1 << p);
            same("the bass", x.sounds(0, 0, 2), p);
            same("no set", x.sounds(0, 1, 0), 0);
            same("no bass", x.sounds(0, 1, 2), NONE);
        }
        SnoreCars some = of("k8,8;i0,1,2,3,4,5,6;s1 1 0 0 3;s4 2 0 1 2;s6 4 0 0 3;s9 8 0 0 3;s4 3 0 2 3;", 0, 0, 0, 1, 0);
        int[] chords = {2 + 64, 2 + 16 + 64, 2 + 64 + 16, 0};
        int[] loud = {5, 7, 8, 0};
        int[] bass = {1, 1, 1, NONE};
        for (int h = 0; h < 4; h++) {
            same("who snores at hour " + h, some.sounds(0, h, 0), chords[h]);
            same("how loud", some.sounds(0, h, 1), loud[h]);
            same("the bass", some.sounds(0, h, 2), bass[h]);
            same("the other car", some.sounds(1, h, 0), h < 3 ? 512 : 0);
        }
        some.off(0);
        same("without 0", some.sounds(0, 1, 0), 16 + 64);
        same("the bass without 0", some.sounds(0, 1, 2), 4);
        SnoreCars all = of("k8;" + "s11 9 40 0 12;".repeat(7) + "s7 9 40 0 12;", 0, 0, 0, 0, 0, 0, 0, 0);
        same("both", all.sounds(0, 5, 0), 2048 + 128);
        same("eight times 9", all.sounds(0, 5, 1), 72);
        same("the least, though told last", all.sounds(0, 5, 2), 7);
    }

    private static void soundsOfWhich() {
        checks.sentence("SOUNDS: what = 0 the SET, 1 LOUD, 2 the BASS. UNKNOWN, OUTSIDE");
        SnoreCars x = of("k1,1,1,1;s5 6 0 0 12;", 3);
        int[] due = {32, 6, 5, OUTSIDE};
        for (int what = 0; what < due.length; what++) {
            same("sounds(3, 0, " + what + ")", x.sounds(3, 0, what), due[what]);
        }
        same("sounds(4, 0, 0)", x.sounds(4, 0, 0), UNKNOWN);
        for (int odd : ODD) {
            same("sounds(" + odd + ", 0, 0)", x.sounds(odd, 0, 0), UNKNOWN);
            same("sounds(0, " + odd + ", 0)", x.sounds(0, odd, 0), OUTSIDE);
            same("sounds(0, 0, " + odd + ")", x.sounds(0, 0, odd), OUTSIDE);
        }
    }

    private static void coldOfNoneToAll() {
        checks.sentence("COLD: each gets one by q of a hundred (q 0 .. 100): odds that none of a SET does: a BILLION times"
            + " (100 less q) / 100 for each");
        SnoreCars x = of("k1;" + Trains.sleepers(8));
        int[] halves = {1000000000, 500000000, 250000000, 125000000, 62500000, 31250000, 15625000, 7812500, 3906250};
        for (int many = 0; many <= 8; many++) {
            same("the first " + many + " by 50", x.cold((1 << many) - 1, 50), halves[many]);
            same("the last " + many + " by 50", x.cold(255 & ~((1 << 8 - many) - 1), 50), halves[many]);
            same(many + " by 0", x.cold((1 << many) - 1, 0), 1000000000);
            same(many + " by 100", x.cold((1 << many) - 1, 100), many == 0 ? 1000000000 : 0);
        }
        same("q 1", x.cold(64, 1), 990000000);
        same("q 99", x.cold(64, 99), 10000000);
        same("q 101", x.cold(64, 101), OUTSIDE);
        same("q -1", x.cold(64, -1), OUTSIDE);
        same("q lowest", x.cold(0, LOWEST), OUTSIDE);
        same("q highest", x.cold(0, HIGHEST), OUTSIDE);
    }

    private static void coldIsCut() {
        checks.sentence("for each (cut)");
        SnoreCars x = of("k1;" + Trains.sleepers(8));
        int[] due = {1000000000, 990000000, 980100000, 970299000, 960596010, 950990049, 941480148, 932065346, 922744692};
        for (int many = 0; many <= 8; many++) {
            same(many + " by 1", x.cold((1 << many) - 1, 1), due[many]);
        }
        int[] small = {10000000, 100000, 1000, 10, 0, 0};
        for (int many = 1; many <= 6; many++) {
            same(many + " by 99", x.cold((1 << many) - 1, 99), small[many - 1]);
        }
    }

    private static void coldOfWhom() {
        checks.sentence("COLD (q 0 .. 100). UNKNOWN, OUTSIDE (bits of SLEEPERS that there are not)");
        for (int many = 0; many <= 8; many++) {
            SnoreCars x = of("k1;" + Trains.sleepers(many));
            same("all of " + many, x.cold((1 << many) - 1, 0), 1000000000);
            same("a bit more than " + many, x.cold(1 << many, 0), UNKNOWN);
            same("bit 31 of " + many, x.cold(LOWEST, 0), UNKNOWN);
            same("all bits of " + many, x.cold(-1, 0), UNKNOWN);
        }
    }

    private static void nothingChanges() {
        checks.sentence("TRIED; nothing changes by it");
        SnoreCars x = of("k2,3;s0 6 3 0 12;s4 5 4 2 8;s6 9 5 0 3;s7 2 1 5 12;s1 8 20 1 9;c0 1;", 0, 0, 1, 1, 1);
        x.seed(99);
        x.hour(2);
        x.wake();
        x.shunted(0);
        x.madeUp(NONE);
        x.moves(NONE);
        x.laws(1, 1);
        x.pitches(3, 1, 1);
        x.bestCar(2, 1);
        x.alike(0, 1);
        x.sounds(0, 3, 0);
        x.cold(31, 7);
        int[] due = {2, 5, 1, 57, 0, 2, 8, 0, 0, 6};
        for (int what = 0; what < due.length; what++) {
            same("told(" + what + ")", x.told(what), due[what]);
        }
        int[] pitches = {0, 4, 6, 7, 1};
        for (int s = 0; s < pitches.length; s++) {
            same("pitch of " + s, x.sleeper(s, 0), pitches[s]);
            same("car of " + s, x.sleeper(s, 5), s < 2 ? 0 : 1);
        }
        same("noise by the law of before: 3 is awake, 2 is 5 from 4", x.sleeper(4, 8), 0);
        same("the seed", x.seed(0), 99);
    }

    private static void trainAfterTrain() {
        checks.sentence("THE TEXT becomes THE TRAIN (nothing is left of those before)");
        SnoreCars x = new SnoreCars();
        String[] texts = {"k8,8,8,8;s3 1 1 0 12;" + Trains.sleepers(7) + "c0 7;c1 2;i6;", "k9", "k2;" + TWO_WAKE};
        int[] answers = {4, -12, 1};
        for (int n = 0; n < 8; n++) {
            int which = n < 4 ? n % 2 : 2;
            Trains.feed(x, texts[which]);
            same("train()", x.train(), answers[which]);
            same("madeUp(0)", x.madeUp(0), 0);
            Trains.lying(x, 0, 0);
            if (which == 0) {
                same("a car to go to", x.moves(0), 1);
            }
            if (which == 2) {
                same("fewest", x.madeUp(NONE), 2);
                same("no other car", x.bestCar(0, 0), 0);
                same("none worse", x.bestCar(0, 1), 0);
                same("no move", x.moves(NONE), NONE);
                same("both wake", x.wake(), 3);
                same("two snore", x.sounds(0, 11, 1), 18);
            }
        }
        Trains.feed(x, "k1,1;" + Trains.sleepers(3));
        same("a berth too few", x.train(), 2);
        same("fewest", x.madeUp(NONE), NONE);
        for (int s = 0; s < 3; s++) {
            same("made up anew: none, " + s, x.madeUp(s), NONE);
        }
        Trains.feed(x, "k1,1,4;s0 0 0 0 0;s5 7 0 2 4;s5 0 0 0 0;c0 2;");
        same("three cars", x.train(), 3);
        int[] due = {2, 0, 2};
        for (int s = 0; s < due.length; s++) {
            same("made up anew, " + s, x.madeUp(s), due[s]);
        }
        x.put(1, 1);
        int[] loud = {0, 0, 7, 7, 0, 0, 0, 0, 0, 0, 0, 0};
        for (int h = 0; h < loud.length; h++) {
            same("hour " + h, x.sounds(1, h, 1), loud[h]);
        }
        String[] like = {"k1,2;" + TWO_WAKE + "s6 0 0 0 0;", "k1,1;" + TWO_WAKE, "k2,2;" + TWO_WAKE + "s0 0 0 0 0;"};
        int[][] likeDue = {{0, 1, 1}, {0, 1}, {0, 1, 0}};
        for (int n = 0; n < 9; n++) {
            int which = n < 6 ? n % 3 : n % 2;
            Trains.feed(x, like[which]);
            x.train();
            for (int s = 0; s < likeDue[which].length; s++) {
                same("made up anew, " + s, x.madeUp(s), likeDue[which][s]);
            }
            same("nobody wakes", x.madeUp(NONE), 0);
        }
    }
}
