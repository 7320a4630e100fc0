/**
 * "1 THE TRAIN" and promises 1 to 4: each sentence that names a bound, on the bound and just beyond it.
 * A text that has a fault is told in two parts: the fault is at the first letter of the second one.
 */
public final class BoundsOfTextTests {
    private static final int NONE = SnoreCars.NONE, UNKNOWN = SnoreCars.UNKNOWN, OUTSIDE = SnoreCars.OUTSIDE;
    private static final int NOT = SnoreCars.NOT, FULL = SnoreCars.FULL;
    private static final int LOWEST = Integer.MIN_VALUE, HIGHEST = Integer.MAX_VALUE;
    private static final String PAIR = "k1;s0 0 0 0 0;s0 0 0 0 0;";

    private static final Checks checks = new Checks("BoundsOfTextTests");

    private BoundsOfTextTests() {
    }

    public static void main(String[] args) {
        newObject();
        fiveHundredAndTwelveCalls();
        letters();
        lengthOfText();
        placeOfTheEnd();
        manyCars();
        berths();
        carsFirst();
        carsOnce();
        manySleepers();
        numbersOfSleeper();
        lastHourNotBelowFirst();
        hoursOfSnoring();
        intervals();
        risingIntervals();
        untoldLaw();
        lawOnce();
        manyCouples();
        toldAhead();
        unlikeAndInNoCouple();
        figures();
        figuresAndTheirNeighbours();
        blanks();
        blanksWithinNumbers();
        blankBetweenNumbers();
        words();
        firstLetterWithFault();
        leastOfSeveralFaults();
        emptyText();
        train();
        faultyTrain();
        fault();
        checks.end();
    }

    private static void same(String what, long got, long due) {
        checks.same(what, got, due);
    }

    /** A text without a fault. */
    private static SnoreCars right(String text, int cars) {
        SnoreCars x = Trains.feed(new SnoreCars(), text);
        same("train() of '" + text + "'", x.train(), cars);
        same("fault() of '" + text + "'", x.fault(), NONE);
        return x;
    }

    /** A text with a fault at the first letter of its second part, or at its end. */
    private static void faulty(String ahead, String rest, int number) {
        SnoreCars x = Trains.feed(new SnoreCars(), ahead + rest);
        same("train() of '" + ahead + "' and '" + rest + "'", x.train(), -10 - number);
        same("fault() of '" + ahead + "' and '" + rest + "'", x.fault(), ahead.length());
    }

    private static void newObject() {
        checks.sentence("SnoreCars(): No CARS");
        SnoreCars x = new SnoreCars();
        same("cars", x.told(0), 0);
        same("car 0", x.car(0, 0), UNKNOWN);
        same("sleeper 0", x.sleeper(0, 0), UNKNOWN);
        same("in tune are 0, 3, 4, 5 untold", x.told(3), 1 + 8 + 16 + 32);
        int[] nothing = {1, 2, 4, 5, 6, 7, 8, 9};
        for (int what : nothing) {
            same("told(" + what + ")", x.told(what), 0);
        }
    }

    private static void fiveHundredAndTwelveCalls() {
        checks.sentence("An object is used for at most 512 calls after it has been made");
        SnoreCars x = Trains.of("k1;s7 0 0 0 0;");
        for (int n = 16; n <= 511; n++) {
            same("call " + n, n % 2 == 0 ? x.put(0, 0) : x.off(0), n % 2 == 0 ? NONE : 0);
        }
        same("call 512", x.sleeper(0, 5), NONE);
    }

    private static void letters() {
        checks.sentence("One letter (a number 0 .. 255) comes behind THE TEXT: how many it has. OUTSIDE");
        SnoreCars x = new SnoreCars();
        same("feed(-1)", x.feed(-1), OUTSIDE);
        same("feed(256)", x.feed(256), OUTSIDE);
        same("feed(lowest)", x.feed(LOWEST), OUTSIDE);
        same("feed(highest)", x.feed(HIGHEST), OUTSIDE);
        same("what is refused does not come", x.told(4), 0);
        same("feed(0)", x.feed(0), 1);
        same("feed(255)", x.feed(255), 2);
        same("letters", x.told(4), 2);
    }

    private static void lengthOfText() {
        checks.sentence("a text (240 letters at most); FULL (240)");
        SnoreCars x = Trains.feed(new SnoreCars(), "k1" + " ".repeat(236));
        same("letter 239", x.feed(' '), 239);
        same("letter 240", x.feed(';'), 240);
        same("letter 241", x.feed('x'), FULL);
        same("once more", x.feed(' '), FULL);
        same("letters", x.told(4), 240);
        same("letter 240 is read, letter 241 is not", x.train(), 1);
        same("it is empty then", x.feed('k'), 1);
        faulty("k1;" + " ".repeat(236), "x", 1);
        faulty("", "x" + " ".repeat(239), 1);
    }

    private static void placeOfTheEnd() {
        checks.sentence("FAULTS, at the first letter that has one (the end at the text's length)");
        String[] cut = {"k", "k1", "k1,", "k1 ", "k1;s", "k1;s0 0 0 0", "k1;s0 0 0 0 0", "k1;s0 0 0 0 0  ", "k1;i",
            "k1;i0", "k1;i0,", PAIR + "c", PAIR + "c0", PAIR + "c0 1", "k1" + " ".repeat(238)};
        for (String text : cut) {
            faulty(text, "", 1);
        }
        right("k1;", 1);
        right("k1; ", 1);
    }

    private static void manyCars() {
        checks.sentence("1 to 4 CARS; a fifth B: at its ','");
        faulty("k", ";", 1);
        faulty("k1,", ";", 1);
        faulty("k", ",1;", 1);
        for (int cars = 1; cars <= 4; cars++) {
            SnoreCars x = right("k1,2,3,4".substring(0, 2 * cars) + ";", cars);
            same("told(0)", x.told(0), cars);
            same("the last one has its berths", x.car(cars - 1, 0), cars);
            same("one more there is not", x.car(cars, 0), UNKNOWN);
        }
        faulty("k1,2,3,4", ",5;", 1);
        faulty("k1,2,3,4  ", ",", 1);
        faulty("k1,2,3,4", ",x", 1);
        faulty("k1,2,3,4", "", 1);
    }

    private static void berths() {
        checks.sentence("of BERTHS B 1 .. 8 each");
        faulty("k", "0;", 2);
        faulty("k", "9;", 2);
        same("1", right("k1;", 1).car(0, 0), 1);
        same("8", right("k8;", 1).car(0, 0), 8);
        faulty("k8,8,8,", "0", 2);
        faulty("k1,1,1,", "9", 2);
        same("1 in the last car", right("k8,8,8,1;", 4).car(3, 0), 1);
        same("8 in the last car", right("k1,1,1,8;", 4).car(3, 0), 8);
    }

    private static void carsFirst() {
        checks.sentence("first; another word first than 'k'");
        String[] others = {"s0 0 0 0 0;k1;", "i0;k1;", "c0 1;k1;", "s", "i", "c"};
        for (String other : others) {
            faulty("", other, 1);
            faulty("  ", other, 1);
        }
        right("k1;s0 0 0 0 0;", 1);
        right("k1;i0;", 1);
    }

    private static void carsOnce() {
        checks.sentence("once; 'k' again (at it)");
        faulty("k1;", "k1;", 3);
        faulty("k1;", "k", 3);
        faulty("k1;i0; ", "k", 3);
        faulty(PAIR + "c0 1;", "k9", 3);
    }

    private static void manySleepers() {
        checks.sentence("8 SLEEPERS at most; a ninth 's' (at it)");
        for (int many = 0; many <= 8; many++) {
            same("sleepers", right("k1;" + Trains.sleepers(many), 1).told(1), many);
        }
        faulty("k1;" + Trains.sleepers(7) + "s", "", 1);
        faulty("k1;" + Trains.sleepers(8), "s", 3);
        faulty("k1;" + Trains.sleepers(8), Trains.sleepers(1), 3);
        faulty("k1;" + Trains.sleepers(8) + "i0;  ", "s99", 3);
    }

    private static void numbersOfSleeper() {
        checks.sentence("'s' P L D A Z ';' (PITCH P 0 .. 11, LOUD L 0 .. 9, DEPTH D 0 .. 40; A, Z 0 .. 12)");
        int[] most = {11, 9, 40, 12, 12};
        SnoreCars least = right("k1;s0 0 0 0 0;", 1);
        SnoreCars all = right("k1;s11 9 40 12 12;", 1);
        for (int what = 0; what < most.length; what++) {
            same("the least of number " + what, least.sleeper(0, what), 0);
            same("the most of number " + what, all.sleeper(0, what), most[what]);
            StringBuilder ahead = new StringBuilder("k1;s");
            for (int before = 0; before < what; before++) {
                ahead.append("0 ");
            }
            faulty(ahead.toString(), most[what] + 1 + " 0 0 0 0 0", 2);
            faulty(ahead.toString(), ";", 1);
        }
        faulty("k1;s0 0 0 0 0 ", "", 1);
        faulty("k1;s0 0 0 0 0 ", "0;", 1);
    }

    private static void lastHourNotBelowFirst() {
        checks.sentence("A no more than Z; 4 Z below A (at the Z)");
        for (int from = 0; from <= 12; from++) {
            right("k1;s0 0 0 " + from + " " + from + ";", 1);
            right("k1;s0 0 0 " + from + " 12;", 1);
            if (from > 0) {
                faulty("k1;s0 0 0 " + from + " ", from - 1 + ";", 4);
                faulty("k1;s0 0 0 " + from + " ", "0", 4);
            }
        }
    }

    private static void hoursOfSnoring() {
        checks.sentence("snores at hours A to Z less 1 of the night");
        int[][] spans = {{0, 0}, {0, 1}, {0, 12}, {3, 5}, {6, 6}, {11, 12}, {12, 12}};
        for (int[] span : spans) {
            SnoreCars x = Trains.lying(right("k1;s0 5 0 " + span[0] + " " + span[1] + ";", 1), 0);
            for (int h = 0; h < 12; h++) {
                same(span[0] + " to " + span[1] + " at hour " + h, x.sounds(0, h, 1),
                    h >= span[0] && h < span[1] ? 5 : 0);
            }
        }
    }

    private static void intervals() {
        checks.sentence("IN TUNE are INTERVALS I, 0 .. 6");
        for (int i = 0; i <= 6; i++) {
            same("i" + i, right("k1;i" + i + ";", 1).told(3), 1 << i);
        }
        faulty("k1;i", "7;", 2);
        faulty("k1;i6,", "7;", 2);
        faulty("k1;i", ";", 1);
        same("all", right("k1;i0,1,2,3,4,5,6;", 1).told(3), 127);
        faulty("k1;i0,1,2,3,4,5,6,", "7;", 2);
        faulty("k1;i0,1,2,3,4,5,6,", ";", 1);
    }

    private static void risingIntervals() {
        checks.sentence("rising; 4 an I that does not rise (at it)");
        for (int i = 1; i <= 6; i++) {
            same("by one", right("k1;i" + (i - 1) + "," + i + ";", 1).told(3), 3 << i - 1);
            faulty("k1;i" + i + ",", i + ";", 4);
            faulty("k1;i" + i + ",", i - 1 + ";", 4);
        }
        faulty("k1;i0,", "0;", 4);
        faulty("k1;i0,5,", "3", 4);
        faulty("k1;i1,3,", "3,9", 4);
    }

    private static void untoldLaw() {
        checks.sentence("0, 3, 4, 5 untold");
        same("untold", right("k1;", 1).told(3), 1 + 8 + 16 + 32);
        same("told", right("k1;i1;", 1).told(3), 2);
    }

    private static void lawOnce() {
        checks.sentence("once; 'i' again (at it)");
        faulty("k1;i0;", "i1;", 3);
        faulty("k1;i0;s0 0 0 0 0; ", "i", 3);
        right("k1;s0 0 0 0 0;i0;", 1);
    }

    private static void manyCouples() {
        checks.sentence("4 COUPLES at most; a fifth 'c' (at it)");
        String eight = "k1;" + Trains.sleepers(8);
        String[] couples = {"c0 1;", "c3 2;", "c4 5;", "c7 6;"};
        StringBuilder told = new StringBuilder(eight);
        for (int many = 1; many <= 4; many++) {
            faulty(told + "c", "", 1);
            told.append(couples[many - 1]);
            same("couples", right(told.toString(), 1).told(2), many);
        }
        faulty(told.toString(), "c", 3);
        faulty(told.toString(), "c0 1;", 3);
    }

    private static void toldAhead() {
        checks.sentence("SLEEPERS A, B told ahead; 2 a SLEEPER that was not told yet (at its first)");
        faulty("k1;c", "0 1;", 2);
        faulty("k1;s0 0 0 0 0;c", "1 0;", 2);
        faulty("k1;s0 0 0 0 0;c0 ", "1;", 2);
        right(PAIR + "c0 1;", 1);
        right(PAIR + "c1 0;", 1);
        faulty(PAIR + "c", "2 0;", 2);
        faulty(PAIR + "c0 ", "2;", 2);
        faulty(PAIR + "c0 ", "2;s0 0 0 0 0;", 2);
        right("k1;" + Trains.sleepers(8) + "c6 7;", 1);
        faulty("k1;" + Trains.sleepers(8) + "c7 ", "008;", 2);
    }

    private static void unlikeAndInNoCouple() {
        checks.sentence("unlike, in no COUPLE yet; 4 A or B in a COUPLE already, B like A (at it)");
        String four = "k1;" + Trains.sleepers(4);
        faulty(four + "c0 ", "0;", 4);
        faulty(four + "c3 ", "3;", 4);
        faulty(four + "c0 1;c", "0 2;", 4);
        faulty(four + "c0 1;c", "1 2;", 4);
        faulty(four + "c0 1;c2 ", "0;", 4);
        faulty(four + "c0 1;c2 ", "1;", 4);
        faulty(four + "c0 1;c", "0 0;", 4);
        SnoreCars x = right(four + "c0 1;c2 3;", 1);
        int[] mates = {1, 0, 3, 2};
        for (int s = 0; s < mates.length; s++) {
            same("with " + s, x.sleeper(s, 7), mates[s]);
        }
    }

    private static void figures() {
        checks.sentence("NUMBERS have one to three figures; 2 a NUMBER of four figures or more");
        String[] ones = {"1", "01", "001"};
        for (String one : ones) {
            same(one, right("k" + one + ";", 1).car(0, 0), 1);
        }
        faulty("k", "0001;", 2);
        faulty("k", "00001;", 2);
        faulty("k", "4294967297;", 2);
        faulty("k", "18446744073709551617;", 2);
        faulty("k", "999;", 2);
        faulty("k", ";", 1);
        faulty("k1;s0 0 ", "100 0 0", 2);
        same("040", right("k1;s0 0 040 0 0;", 1).sleeper(0, 2), 40);
        faulty("k1;s0 0 ", "0040 0 0;", 2);
        same("000", right("k1;i000;", 1).told(3), 1);
        faulty("k1;i", "0000;", 2);
        faulty(PAIR + "c", "0000 1;", 2);
        faulty(PAIR + "c000 ", "0001;", 2);
        right(PAIR + "c000 001;", 1);
    }

    private static void figuresAndTheirNeighbours() {
        checks.sentence("(figures are 0 to 9, letters 48 to 57)");
        faulty("k", "/;", 1);
        faulty("k", ":;", 1);
        faulty("k1", "/;", 1);
        faulty("k1", ":;", 1);
        faulty("k", "-1;", 1);
        faulty("k", "+1;", 1);
        same("9", right("k1;s9 9 19 09 9;", 1).sleeper(0, 2), 19);
        same("0", right("k1;s10 0 20 0 0;", 1).sleeper(0, 2), 20);
    }

    private static void blanks() {
        checks.sentence("blanks (32) may stand anywhere but within NUMBERS");
        SnoreCars x = right("  k 1 ,  2 ; s  11 9  40 0 12  ; s 1 2 3 4 5 ;  i 1 , 6 ; c 1  0 ;  ", 2);
        same("berths", x.car(1, 0), 2);
        same("depth", x.sleeper(0, 2), 40);
        same("law", x.told(3), 66);
        same("couples", x.told(2), 1);
        int[] others = {0, 9, 10, 13, 31, 33, 160, 255};
        for (int other : others) {
            char sign = (char) other;
            faulty("", sign + "k1;", 1);
            faulty("k", sign + "1;", 1);
            faulty("k1", sign + ";", 1);
            faulty("k1;", sign + "", 1);
            faulty("k1;s0", sign + "0 0 0 0;", 1);
        }
    }

    private static void blanksWithinNumbers() {
        checks.sentence("but within NUMBERS");
        faulty("k1;s1 1 9 0 3 ", "12;", 1);
        faulty("k1;s0 0 3 0 0 ", "1 2;", 1);
        faulty("k1;i0 ", "0;", 1);
        faulty("k", "0 1;", 2);
        faulty("k1 ", "1;", 1);
    }

    private static void blankBetweenNumbers() {
        checks.sentence("two NUMBERS side by side need one");
        faulty("k1;s0 0 0 00", ";", 1);
        faulty("k1;s0 0 0 010", ";", 1);
        faulty(PAIR + "c01", ";", 1);
        faulty(PAIR + "c0", ",1;", 1);
        right("k1,1;s0 0 0 0 0;i0,1;", 2);
        right("k1;s0  0 0   0 0;", 1);
    }

    private static void words() {
        checks.sentence("a word is one letter; 1 a letter that is no word");
        char[] no = {'j', 'l', 'r', 't', 'h', 'b', 'd', 'K', 'S', 'I', 'C', 'a', 'z', ';', ',', '0', '1', 0, 255,
            'k' + 128};
        for (char letter : no) {
            faulty("", letter + "1;", 1);
            faulty("k1;", letter + "0 0;", 1);
            faulty("k1; i0; ", letter + "", 1);
        }
        faulty("k", "k1;", 1);
        faulty("k1;s", "s0 0 0 0 0;", 1);
        faulty("k1;i", "i0;", 1);
        faulty(PAIR + "c", "c0 1;", 1);
        faulty("k1;", ";", 1);
        faulty("k1", "s0 0 0 0 0;", 1);
        faulty("k1;s0 0 0 0 0", "s0 0 0 0 0;", 1);
        faulty("k1;s0 0 0 0 0", ",0;", 1);
    }

    private static void firstLetterWithFault() {
        checks.sentence("FAULTS, at the first letter that has one");
        faulty("k", "9;k0;x", 2);
        faulty("k1", "x9;k1;", 1);
        faulty("k1;", "k9;x", 3);
        faulty("k1;s0 0 0 5 ", "4;x9", 4);
        faulty("k1;s0 0 ", "41 5 4;", 2);
        faulty("k1;i3,", "3,7", 4);
        faulty("k1;i3,", "7,3", 2);
        faulty("k1;", "x;k1;", 1);
    }

    private static void leastOfSeveralFaults() {
        checks.sentence("of these the least");
        faulty("k1;i3,", "0002;", 2);
        faulty("k1;s0 0 0 12 ", "0011;", 2);
        faulty("k1 ", "9;", 1);
        faulty("k1 ", "0001;", 1);
        faulty("k1;s0 0 0 0 0 ", "9999;", 1);
        faulty("k1", "k", 1);
        faulty("k1;" + Trains.sleepers(8) + "c0 1", "s", 1);
        faulty("k1;i0", "i", 1);
        faulty(PAIR + "c0 1;c", "0000 1;", 2);
        faulty(PAIR + "c1 ", "0001;", 2);
        faulty("k1,2,3,4", ",9;", 1);
    }

    private static void emptyText() {
        checks.sentence("An empty text (or one of blanks alone) has no FAULT: no CARS");
        int[] lengths = {0, 1, 240};
        for (int length : lengths) {
            SnoreCars x = Trains.of("k2;s0 0 0 0 0;i6;");
            Trains.feed(x, " ".repeat(length));
            same("train()", x.train(), 0);
            same("fault()", x.fault(), NONE);
            same("cars", x.told(0), 0);
            same("sleepers", x.told(1), 0);
            same("law", x.told(3), 57);
            same("car 0", x.car(0, 0), UNKNOWN);
        }
        faulty("  ", ";", 1);
    }

    /** A train with an image, an entry, a seed, one awake on the platform, and something to undo. */
    private static SnoreCars lived() {
        SnoreCars x = Trains.lying(Trains.of("k2,1;s0 9 0 0 12;s1 9 0 0 12;s2 0 0 0 0;c0 1;i0;"), 0, 0);
        x.seed(1234567);
        x.write(1, true);
        x.hour(5);
        x.keep(1);
        x.off(0);
        return x;
    }

    private static void train() {
        checks.sentence("becomes THE TRAIN (HOUR 0, all on the platform, nobody AWAKE; no BOOK; IMAGES, what could be"
            + " undone are gone; THE SEED stays): how many CARS");
        SnoreCars x = Trains.feed(lived(), "k1,2,3;" + Trains.sleepers(2));
        same("train()", x.train(), 3);
        same("THE TEXT is empty then", x.told(4), 0);
        same("the hour", x.told(5), 0);
        same("awake", x.told(6), 0);
        same("on the platform", x.told(7), 3);
        for (int k = 0; k < 3; k++) {
            same("who is in car " + k, x.car(k, 1), 0);
        }
        same("the book", x.told(8), 0);
        same("to undo", x.told(9), 0);
        same("undo()", x.undo(), NOT);
        same("image 0", x.goBack(0), NOT);
        same("image 1", x.goBack(1), NOT);
        same("the seed", x.seed(0), 1234567);
        same("couples", x.told(2), 0);
        same("law", x.told(3), 57);
    }

    private static void faultyTrain() {
        checks.sentence("-10 less the number of its FAULT (all else is as it was); THE TEXT is empty then, with a FAULT,"
            + " too");
        String[] texts = {"", "k1;s5 5 5 5 5;c", "k3;s9 9 9 9", "k4,4;i5;s3 3 3 3 12;s3 3 3 3 12;c0 1;k"};
        int[] answers = {NONE, -11, -11, -13};
        for (int n = 1; n < texts.length; n++) {
            SnoreCars x = Trains.feed(lived(), texts[n]);
            same("train()", x.train(), answers[n]);
            same("fault()", x.fault(), texts[n].length() - (n == 3 ? 1 : 0));
            int[] due = {2, 3, 1, 1, 0, 5, 3, 5, 1, 1};
            for (int what = 0; what < due.length; what++) {
                same("told(" + what + ")", x.told(what), due[what]);
            }
            same("berths", x.car(0, 0), 2);
            same("pitch", x.sleeper(1, 0), 1);
            same("the mate", x.sleeper(1, 7), 0);
            same("nobody for the third", x.sleeper(2, 7), NONE);
            same("undo()", x.undo(), 0);
            same("in its car again", x.sleeper(0, 5), 0);
            same("noise by the old law: awake, 0", x.sleeper(0, 8), 0);
            same("the image", x.goBack(1), 1);
            same("the other image", x.goBack(0), NOT);
            same("the seed", x.seed(0), 1234567);
            Trains.feed(x, "k1;");
            same("behind a fault the text is a new one", x.train(), 1);
            int[] anew = {1, 0, 0, 57};
            for (int what = 0; what < anew.length; what++) {
                same("of the new one told(" + what + ")", x.told(what), anew[what]);
            }
        }
    }

    private static void fault() {
        checks.sentence("The place (from 0 on) of the letter that has the FAULT of the latest train(); NONE");
        SnoreCars x = new SnoreCars();
        same("no train() yet", x.fault(), NONE);
        Trains.feed(x, "x");
        same("fed, not read", x.fault(), NONE);
        x.train();
        same("the first letter", x.fault(), 0);
        Trains.feed(x, "k1");
        same("the latest train(), not this text", x.fault(), 0);
        x.train();
        same("the end", x.fault(), 2);
        Trains.feed(x, "k1;");
        x.train();
        same("no fault in the latest", x.fault(), NONE);
        Trains.feed(x, "k9");
        x.train();
        same("a fault again", x.fault(), 1);
        x.train();
        same("an empty text", x.fault(), NONE);
        Trains.feed(x, " ".repeat(239) + "s");
        x.train();
        same("the last letter", x.fault(), 239);
        Trains.feed(x, "k1" + " ".repeat(238));
        x.train();
        same("the end of the longest text", x.fault(), 240);
    }
}
