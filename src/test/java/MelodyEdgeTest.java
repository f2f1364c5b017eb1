/** The boundary cases of promises 5 to 10: range, bits, bound, melodies, melody, place. */
public final class MelodyEdgeTest {
    private static final int BAD = EarSchool.BAD, NONE = EarSchool.NONE;
    private static final int ALL_STEPS = (1 << 25) - 1;
    private static final long MANY = 1000000000000000000L;
    private static final Check check = new Check();

    public static void main(String[] args) {
        rangeN();
        rangeLowAndHigh();
        rangeWidth();
        rangeHighBelowLow();
        rangeIsKeptTo();
        bitsOfClasses();
        bitsOfSteps();
        bitsWay();
        classesWrapAround();
        firstAndLastInScale();
        stepsOfTwelve();
        boundLeap();
        boundRepeats();
        boundWay();
        leapBegins();
        leapOfThirteen();
        leapGoesBack();
        leapAtTheEnd();
        leapsOneBehindAnother();
        repeatsInARow();
        repeatsOfSixteen();
        manyMelodies();
        melodyNumber();
        melodyOfVeryMany();
        placeOfNNotes();
        placeOutsideOfAll();
        placeOfVeryMany();
        check.finish();
    }

    private static Run promise(int number, String words) {
        return new Run(check, number, words);
    }

    private static int step(int s) {
        return 1 << (12 + s);
    }

    private static void rangeN() {
        Run x = promise(5, "rows of n PITCHES (n 1 .. 16)");
        x.refused(BAD, "range", 60, 72, 0);
        for (int n : new int[] {1, 2, 15, 16}) {
            x.due(1, "range", 60, 72, n);
            x.due(n, "count", 5);
            x.due(1, "melody", 0);
            x.due(n, "count", 0);
        }
        x.refused(BAD, "range", 60, 72, 17);
        x.due(16, "count", 5);
    }

    private static void rangeLowAndHigh() {
        Run x = promise(5, "from LOW to HIGH (0 .. 127");
        x.refused(BAD, "range", -1, 20, 4);
        x.due(1, "range", 0, 20, 4);
        x.due(1, "range", 1, 20, 4);
        x.due(1, "range", 100, 126, 4);
        x.due(1, "range", 100, 127, 4);
        x.refused(BAD, "range", 100, 128, 4);
        x.due(1, "range", 0, 0, 4);
        x.refused(BAD, "range", -1, -1, 4);
        x.due(1, "range", 127, 127, 4);
        x.refused(BAD, "range", 128, 128, 4);
    }

    private static void rangeWidth() {
        Run x = promise(5, "HIGH 36 above LOW at most");
        x.due(1, "range", 50, 85, 4);
        x.due(1, "range", 50, 86, 4);
        x.refused(BAD, "range", 50, 87, 4);
        x.due(1, "range", 0, 36, 4);
        x.refused(BAD, "range", 0, 37, 4);
        x.due(1, "range", 91, 127, 4);
        x.refused(BAD, "range", 90, 127, 4);
    }

    private static void rangeHighBelowLow() {
        Run x = promise(5, "from LOW to HIGH");
        x.due(1, "range", 60, 61, 4);
        x.due(1, "range", 60, 60, 4);
        x.refused(BAD, "range", 60, 59, 4);
    }

    private static void rangeIsKeptTo() {
        Run x = promise(8, "rows of n PITCHES, from LOW to HIGH");
        x.freeMelodies(0, 36, 1);
        x.due(37, "melodies");
        x.melodyIs(true, 0);
        x.melodyIs(true, 36);
        x.melodyIs(false, 37);
        x.ask("range", 91, 127, 1);
        x.due(37, "melodies");
        x.melodyIs(false, 90);
        x.melodyIs(true, 91);
        x.melodyIs(true, 127);
        x.ask("range", 127, 127, 16);
        x.due(1, "melodies");
    }

    private static void bitsOfClasses() {
        Run x = promise(6, "SCALE, BEGIN, END (12 bits each: bit c for CLASS c)");
        int[] first = {2741, 4095, 1};
        for (int way = 0; way < 3; way++) {
            x.setFrom(0, 4095, first[way], "bits", way);
        }
    }

    private static void bitsOfSteps() {
        Run x = promise(6, "STEPS (25 bits");
        x.setFrom(0, ALL_STEPS, 1023 * 256, "bits", 3);
    }

    private static void bitsWay() {
        Run x = promise(6, "SCALE (way 0), BEGIN (1), END (2), STEPS (3): the bits that were. BAD.");
        x.refused(BAD, "bits", -1, 0);
        x.due(2741, "bits", 0, 7);
        x.due(1023 * 256, "bits", 3, 7);
        x.refused(BAD, "bits", 4, 0);
        x.due(7, "bits", 0, 7);
        x.due(7, "bits", 3, 7);
    }

    private static void classesWrapAround() {
        Run x = promise(6, "The CLASS of a PITCH is it modulo 12.");
        int[] pitches = {0, 11, 12, 59, 60, 71, 72, 119, 120, 127};
        int[] classes = {0, 11, 0, 11, 0, 11, 0, 11, 0, 7};
        for (int i = 0; i < pitches.length; i++) {
            x.freeMelodies(pitches[i], pitches[i], 1);
            x.ask("bits", 0, 1 << classes[i]);
            x.due(1, "melodies");
            x.ask("bits", 0, 4095 - (1 << classes[i]));
            x.due(0, "melodies");
        }
    }

    private static void firstAndLastInScale() {
        Run x = promise(6, "CLASSES that all, the first, the last PITCH may have "
                + "(the first and last must be in SCALE, too)");
        x.freeMelodies(60, 62, 2);
        x.ask("bits", 0, 0b011);
        x.ask("bits", 1, 0b100);
        x.due(0, "melodies");
        x.ask("bits", 1, 0b110);
        x.due(2, "melodies");
        x.ask("bits", 2, 0b100);
        x.due(0, "melodies");
        x.ask("bits", 2, 0b101);
        x.due(1, "melodies");
        x.melodyIs(true, 61, 60);
        // Of one pitch the first is the last.
        x.ask("range", 60, 62, 1);
        x.due(0, "melodies");
        x.ask("bits", 2, 0b110);
        x.due(1, "melodies");
        x.melodyIs(true, 61);
        // Neither BEGIN nor END binds what stands between.
        x.ask("range", 60, 62, 3);
        x.melodyIs(true, 61, 60, 61);
        x.melodyIs(false, 60, 60, 61);
        x.melodyIs(false, 61, 60, 60);
        x.melodyIs(false, 61, 62, 61);
    }

    private static void stepsOfTwelve() {
        Run x = promise(6, "bit 12 + s for a step s, -12 .. 12, from one PITCH to the next");
        x.freeMelodies(60, 73, 2);
        x.due(14 * 14 - 2, "melodies");
        x.melodyIs(true, 60, 71);
        x.melodyIs(true, 60, 72);
        x.melodyIs(false, 60, 73);
        x.melodyIs(true, 73, 62);
        x.melodyIs(true, 73, 61);
        x.melodyIs(false, 73, 60);
        int[] edges = {-12, -11, -1, 0, 1, 11, 12};
        for (int s : edges) {
            x.ask("bits", 3, step(s));
            x.due(14 - Math.abs(s), "melodies");
            x.ask("melody", 0);
            x.rowIs(0, Math.max(60, 60 - s), Math.max(60, 60 + s));
        }
        x.ask("bits", 3, 0);
        x.due(0, "melodies");
        x.ask("range", 60, 73, 1);
        x.due(14, "melodies");
    }

    private static void boundLeap() {
        Run x = promise(7, "LEAP l (1 .. 13)");
        x.setFrom(1, 13, 5, "bound", 0);
    }

    private static void boundRepeats() {
        Run x = promise(7, "REPEATS r (0 .. 15)");
        x.setFrom(0, 15, 1, "bound", 1);
    }

    private static void boundWay() {
        Run x = promise(7, "LEAP (way 0), REPEATS (1): what it was. BAD.");
        x.refused(BAD, "bound", -1, 5);
        x.due(5, "bound", 0, 5);
        x.due(1, "bound", 1, 1);
        x.refused(BAD, "bound", 2, 5);
    }

    private static void leapBegins() {
        Run x = promise(8, "behind a step of l half steps or more, up or down");
        x.freeMelodies(50, 86, 3);
        x.ask("bound", 0, 5);
        for (int way = -1; way <= 1; way += 2) {
            int first = 68;
            x.melodyIs(true, first, first + 4 * way, first + 4 * way);
            x.melodyIs(false, first, first + 5 * way, first + 5 * way);
            x.melodyIs(false, first, first + 6 * way, first + 6 * way);
            x.melodyIs(false, first, first + 12 * way, first + 12 * way);
        }
        x.ask("bound", 0, 1);
        x.melodyIs(true, 68, 68, 60);
        x.melodyIs(false, 68, 69, 69);
        x.melodyIs(false, 68, 67, 67);
    }

    private static void leapOfThirteen() {
        Run x = promise(8, "LEAP l (1 .. 13): no step is of 13");
        x.freeMelodies(50, 86, 3);
        x.melodyIs(true, 60, 72, 84);
        x.melodyIs(true, 80, 68, 68);
        x.ask("bound", 0, 12);
        x.melodyIs(false, 60, 72, 84);
        x.melodyIs(false, 80, 68, 68);
        x.melodyIs(true, 60, 71, 82);
        x.melodyIs(true, 80, 69, 69);
    }

    private static void leapGoesBack() {
        Run x = promise(8, "the next one must go the other way, by 1 or 2");
        x.freeMelodies(50, 86, 3);
        x.ask("bound", 0, 5);
        for (int way = -1; way <= 1; way += 2) {
            int second = 68 + 5 * way;
            x.melodyIs(false, 68, second, second + way);
            x.melodyIs(false, 68, second, second);
            x.melodyIs(true, 68, second, second - way);
            x.melodyIs(true, 68, second, second - 2 * way);
            x.melodyIs(false, 68, second, second - 3 * way);
        }
        // The step back must be one of STEPS, too.
        x.ask("bits", 3, ALL_STEPS - step(-1));
        x.melodyIs(false, 68, 73, 72);
        x.melodyIs(true, 68, 73, 71);
        x.ask("bits", 3, ALL_STEPS - step(-2));
        x.melodyIs(true, 68, 73, 72);
        x.melodyIs(false, 68, 73, 71);
    }

    private static void leapAtTheEnd() {
        Run x = promise(8, "the next one, if there is one");
        x.freeMelodies(50, 86, 2);
        x.ask("bound", 0, 5);
        x.melodyIs(true, 60, 72);
        x.melodyIs(true, 72, 60);
        x.ask("range", 50, 86, 3);
        x.melodyIs(true, 60, 62, 74);
        x.melodyIs(true, 60, 72, 70);
        x.melodyIs(false, 60, 72, 69);
        // The step back may itself be a leap, where LEAP is 1 or 2.
        x.ask("range", 50, 86, 4);
        x.ask("bound", 0, 2);
        x.melodyIs(true, 60, 65, 63, 65);
        x.melodyIs(false, 60, 65, 63, 63);
        x.melodyIs(true, 60, 65, 64, 64);
    }

    private static void leapsOneBehindAnother() {
        Run x = promise(8, "LEAP l (1 .. 13): the least, where each step but 0 is a leap");
        x.freeMelodies(60, 62, 3);
        x.due(27, "melodies");
        x.ask("bound", 0, 3);
        x.due(27, "melodies");
        // Behind 2 up or down only 1 and 2 back are left of three.
        x.ask("bound", 0, 2);
        x.due(27 - 2, "melodies");
        // Behind 1 up or down: 60 61 60, 61 62 61, 61 62 60, and these upside down
        x.ask("bound", 0, 1);
        x.due(27 - 2 - 6, "melodies");
        x.ask("range", 60, 62, 4);
        x.ask("bound", 1, 0);
        x.due(16, "melodies");
        for (int way = -1; way <= 1; way += 2) {
            // 60 62 60 62, or 60 62 with 61 or 62 ahead and 60 or 61 behind; these upside down
            x.ask("bits", 3, ALL_STEPS - step(way));
            x.due(1 + 4, "melodies");
            // 60 61 60 61, 61 62 60 61, 61 62 61 62, or 60 61 with 61 or 62 ahead and 60 behind,
            // or 61 62 with 62 ahead and 60 or 61 behind; these upside down
            x.ask("bits", 3, ALL_STEPS - step(2 * way));
            x.due(3 + 4, "melodies");
        }
    }

    private static void repeatsInARow() {
        Run x = promise(8, "at most r steps of 0 right behind one another");
        x.freeMelodies(60, 72, 6);
        x.ask("bound", 1, 2);
        x.melodyIs(true, 60, 60, 61, 62, 63, 64);
        x.melodyIs(true, 60, 60, 60, 61, 62, 63);
        x.melodyIs(false, 60, 60, 60, 60, 61, 62);
        x.melodyIs(true, 60, 60, 60, 61, 61, 61);
        x.melodyIs(false, 60, 61, 62, 62, 62, 62);
        x.ask("bound", 1, 0);
        x.melodyIs(true, 60, 61, 60, 61, 60, 61);
        x.melodyIs(false, 60, 60, 61, 60, 61, 60);
        x.melodyIs(false, 60, 61, 60, 61, 60, 60);
        x.ask("bound", 1, 1);
        x.melodyIs(true, 60, 60, 61, 61, 60, 60);
        x.melodyIs(false, 60, 60, 60, 61, 60, 61);
    }

    private static void repeatsOfSixteen() {
        Run x = promise(8, "REPEATS r (0 .. 15) of n 16");
        x.freeMelodies(60, 60, 16);
        x.due(1, "melodies");
        x.ask("bound", 1, 14);
        x.due(0, "melodies");
        x.ask("range", 60, 60, 15);
        x.due(1, "melodies");
        x.ask("bound", 1, 13);
        x.due(0, "melodies");
        x.ask("range", 60, 60, 1);
        x.ask("bound", 1, 0);
        x.due(1, "melodies");
        x.ask("range", 60, 60, 2);
        x.due(0, "melodies");
    }

    private static void manyMelodies() {
        Run x = promise(8, "HOW MANY there are is told up to 1000000000000000000 (that: as many or more).");
        x.freeMelodies(48, 78, 14);
        x.ask("bits", 1, 2075);
        x.ask("bits", 2, 187);
        x.due(999988237289939343L, "melodies");
        x.ask("bits", 1, 151);
        x.ask("bits", 2, 605);
        // There are 1000009790374740359.
        x.due(MANY, "melodies");
        x.freeMelodies(48, 84, 16);
        x.due(MANY, "melodies");
        x.ask("bits", 0, 0);
        x.due(0, "melodies");
        x.freeMelodies(60, 60, 1);
        x.due(1, "melodies");
    }

    private static void melodyNumber() {
        Run x = promise(9, "MELODY NUMBER k (0 or above) becomes THE ROW, each LENGTH 24: 1; "
                + "NONE: there are not so many (THE ROW stays). BAD.");
        x.freeMelodies(60, 61, 2);
        x.write(7, 1, 2, 3);
        x.refused(BAD, "melody", -1);
        x.refused(NONE, "melody", 4);
        x.rowIs(0, 1, 2, 3);
        int[][] all = {{60, 60}, {60, 61}, {61, 60}, {61, 61}};
        for (int k = 0; k < 4; k++) {
            x.due(1, "melody", k);
            x.rowIs(0, all[k]);
            x.rowIs(1, 24, 24);
        }
        x.refused(NONE, "melody", 4);
        x.rowIs(0, 61, 61);
        x.ask("bits", 3, 0);
        x.refused(NONE, "melody", 0);
        x.refused(BAD, "melody", -1);
    }

    private static void melodyOfVeryMany() {
        Run x = promise(9, "NONE: there are not so many (of a k of 1000000000000000000 and above, too; "
                + "THE ROW stays)");
        x.freeMelodies(48, 78, 14);
        x.ask("bits", 1, 2075);
        x.ask("bits", 2, 187);
        x.due(1, "melody", 999988237289939342L);
        x.due(999988237289939342L, "place");
        x.refused(NONE, "melody", 999988237289939343L);
        x.ask("bits", 1, 151);
        x.ask("bits", 2, 605);
        x.due(1, "melody", MANY - 2);
        x.due(MANY - 2, "place");
        x.due(1, "melody", MANY - 1);
        x.due(MANY - 1, "place");
        x.refused(NONE, "melody", MANY);
        x.refused(NONE, "melody", MANY + 1);
        x.refused(NONE, "melody", Long.MAX_VALUE);
        x.refused(BAD, "melody", Long.MIN_VALUE);
        x.due(MANY - 1, "place");
    }

    private static void placeOfNNotes() {
        Run x = promise(10, "-1: it has not n NOTES.");
        x.freeMelodies(60, 62, 3);
        x.refused(-1, "place");
        x.write(5, 60, 60);
        x.refused(-1, "place");
        x.ask("note", 61, 96);
        x.due(1, "place");
        x.ask("note", 60, 5);
        x.refused(-1, "place");
        x.ask("range", 60, 62, 4);
        x.due(3, "place");
        x.ask("range", 60, 62, 5);
        x.refused(-1, "place");
        x.ask("range", 60, 62, 1);
        x.ask("drop");
        x.refused(-1, "place");
        x.ask("note", 62, 1);
        x.due(2, "place");
    }

    private static void placeOutsideOfAll() {
        Run x = promise(10, "How many MELODIES are ahead of the PITCHES of THE ROW in ORDER (they need not be one).");
        x.freeMelodies(60, 62, 2);
        x.ask("bound", 1, 0);
        // 60 61, 60 62, 61 60, 61 62, 62 60, 62 61
        int[][] rows = {{0, 0}, {59, 127}, {60, 0}, {60, 60}, {60, 61}, {60, 62}, {60, 63}, {61, 59}, {61, 60},
            {61, 61}, {61, 62}, {62, 60}, {62, 61}, {62, 62}, {63, 0}, {127, 127}};
        int[] due = {0, 0, 0, 0, 0, 1, 2, 2, 2, 3, 3, 4, 5, 6, 6, 6};
        for (int i = 0; i < rows.length; i++) {
            x.write(96, rows[i]);
            x.due(due[i], "place");
        }
        x.ask("bits", 3, 0);
        x.due(0, "place");
    }

    private static void placeOfVeryMany() {
        Run x = promise(10, "up to 1000000000000000000");
        x.freeMelodies(48, 84, 16);
        x.ask("melody", MANY - 1);
        x.due(MANY - 1, "place");
        int[] pitches = new int[16];
        for (int i = 0; i < 16; i++) {
            pitches[i] = (int) x.ask("at", i, 0);
        }
        // The next ones in ORDER: the last pitch goes up by 1, and by 2.
        check.isTrue("promise 10: there is room above the last pitch",
                pitches[15] + 2 <= Math.min(84, pitches[14] + 12));
        pitches[15]++;
        x.write(24, pitches);
        x.due(MANY, "place");
        pitches[15]++;
        x.write(24, pitches);
        x.due(MANY, "place");
        pitches[0] = 127;
        x.write(24, pitches);
        x.due(MANY, "place");
        pitches[0] = 0;
        x.write(24, pitches);
        x.due(0, "place");
    }
}
