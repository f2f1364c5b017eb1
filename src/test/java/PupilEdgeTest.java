/** The boundary cases of promises 23 to 25: learn, table, drill. */
public final class PupilEdgeTest {
    private static final int BAD = EarSchool.BAD, NONE = EarSchool.NONE, NOT = EarSchool.NOT;
    private static final int ASKED = 0, MISSED = 1, WEIGHT = 2;
    private static final Check check = new Check();

    public static void main(String[] args) {
        learnPupil();
        learnNotNow();
        allButTheFirst();
        sizesOfTwelveAndMore();
        missedOrNot();
        missedBesideAShift();
        tablePupil();
        tableSize();
        tableWhat();
        weightIsCut();
        upToTheLastCall();
        drillPupil();
        drillOfOnePitchAndSixteen();
        drillOfNone();
        drillKeepsTheRule();
        drillOfTies();
        drillOfSizeTwelve();
        check.finish();
    }

    private static Run promise(int number, String words) {
        return new Run(check, number, words);
    }

    private static int[] row(int... pitches) {
        return pitches;
    }

    private static void learn(Run x, int pupil, int due, int[] meant, int[] answer) {
        x.mean(24, meant);
        x.write(24, answer);
        x.ask("judge");
        x.due(due, "learn", pupil);
    }

    private static void tables(Run x, int pupil, int size, int asked, int missed) {
        x.due(asked, "table", pupil, size, ASKED);
        x.due(missed, "table", pupil, size, MISSED);
    }

    private static void learnPupil() {
        Run x = promise(23, "PUPILS are 0 .. 5 .. LEARNT: how many steps were MISSED. BAD; NOT.");
        x.refused(BAD, "learn", -1);
        x.refused(BAD, "learn", 6);
        x.refused(NOT, "learn", 0);
        x.refused(NOT, "learn", 5);
        x.mean(24, 60, 61);
        x.write(24, 60);
        x.ask("judge");
        x.refused(BAD, "learn", -1);
        for (int pupil : new int[] {0, 1, 4, 5}) {
            x.due(1, "learn", pupil);
        }
        x.refused(BAD, "learn", 6);
        int[] asked = {1, 1, 0, 0, 1, 1};
        for (int pupil = 0; pupil < 6; pupil++) {
            tables(x, pupil, 1, asked[pupil], asked[pupil]);
        }
    }

    private static void learnNotNow() {
        Run x = promise(23, "NOT (not now: nothing is JUDGED since MEANT, or since THE ROW was changed");
        x.mean(24, 60, 61);
        x.refused(NOT, "learn", 0);
        x.ask("judge");
        x.due(0, "learn", 0);
        x.due(0, "learn", 0);
        tables(x, 0, 1, 2, 0);
        x.ask("meant");
        x.refused(NOT, "learn", 0);
        x.refused(BAD, "learn", 6);
        tables(x, 0, 1, 2, 0);
    }

    private static void allButTheFirst() {
        Run x = promise(23, "for each NOTE of MEANT but the first, the size of the step to it was ASKED");
        learn(x, 0, 0, row(), row());
        learn(x, 0, 0, row(), row(60, 62));
        learn(x, 0, 0, row(60), row());
        learn(x, 0, 0, row(60), row(70));
        for (int size = 0; size <= 12; size++) {
            tables(x, 0, size, 0, 0);
        }
        learn(x, 0, 1, row(60, 61), row());
        tables(x, 0, 1, 1, 1);
        learn(x, 0, 2, row(60, 61, 62), row());
        tables(x, 0, 1, 3, 3);
        int[] longest = new int[24];
        for (int i = 0; i < 24; i++) {
            longest[i] = 60 + 3 * (i % 2);
        }
        learn(x, 0, 23, longest, row());
        tables(x, 0, 3, 23, 23);
    }

    private static void sizesOfTwelveAndMore() {
        Run x = promise(23, "the SIZE of steps (0 .. 12; 12 stands for more, too)");
        int[] steps = {0, 1, 11, 12, 13, 127, -1, -11, -12, -13, -127};
        int[] sizes = {0, 1, 11, 12, 12, 12, 1, 11, 12, 12, 12};
        int[] asked = new int[13];
        for (int i = 0; i < steps.length; i++) {
            int first = steps[i] < 0 ? 127 : 0;
            learn(x, 0, 1, row(first, first + steps[i]), row());
            asked[sizes[i]]++;
            tables(x, 0, sizes[i], asked[sizes[i]], asked[sizes[i]]);
        }
        for (int size = 0; size <= 12; size++) {
            tables(x, 0, size, asked[size], asked[size]);
        }
    }

    private static void missedOrNot() {
        Run x = promise(23, "MISSED, if the NOTE was LOST, or HIT with a PITCH that is not that of MEANT and c more");
        learn(x, 0, 0, row(60, 67), row(60, 67));
        learn(x, 0, 1, row(60, 67), row(60, 68));
        learn(x, 0, 1, row(60, 67), row(60));
        tables(x, 0, 7, 3, 2);
        // The first wrong or lost, and something more, is no step missed.
        learn(x, 1, 0, row(60, 67), row(61, 67));
        learn(x, 1, 0, row(60, 67), row(67));
        learn(x, 1, 0, row(60, 67), row(60, 60, 67));
        learn(x, 1, 0, row(60, 67), row(60, 67, 90));
        tables(x, 1, 7, 4, 0);
        // A LENGTH unlike is no step missed; both unlike is one, though it costs as much as a lost one.
        x.mean(24, 60, 67);
        x.write(24, 60);
        x.ask("note", 67, 25);
        x.due(1, "judge");
        x.due(0, "learn", 2);
        x.write(24, 60);
        x.ask("note", 68, 25);
        x.due(3, "judge");
        x.due(1, "learn", 2);
        tables(x, 2, 7, 2, 1);
    }

    private static void missedBesideAShift() {
        Run x = promise(23, "not that of MEANT and c more");
        learn(x, 0, 0, row(60, 67, 62), row(60, 68, 63));
        learn(x, 0, 0, row(60, 67, 62), row(72, 79, 74));
        // 13 more is beyond any shift.
        learn(x, 0, 2, row(60, 67, 62), row(73, 80, 75));
        tables(x, 0, 7, 3, 1);
        tables(x, 0, 5, 3, 1);
        // In the shift of 1 the unshifted one is wrong.
        learn(x, 1, 1, row(60, 67, 62, 69, 64), row(61, 68, 62, 70, 65));
        tables(x, 1, 5, 2, 1);
        tables(x, 1, 7, 2, 0);
    }

    private static void tablePupil() {
        Run x = promise(24, "Of a PUPIL .. BAD (PUPILS are 0 .. 5)");
        x.refused(BAD, "table", -1, 0, 0);
        for (int pupil : new int[] {0, 1, 4, 5}) {
            x.due(0, "table", pupil, 0, 0);
        }
        x.refused(BAD, "table", 6, 0, 0);
    }

    private static void tableSize() {
        Run x = promise(24, "Of a PUPIL and SIZE .. BAD (0 .. 12)");
        learn(x, 5, 2, row(60, 60, 72), row());
        x.refused(BAD, "table", 5, -1, 0);
        int[] sizes = {0, 1, 11, 12};
        int[] asked = {1, 0, 0, 1};
        for (int i = 0; i < sizes.length; i++) {
            x.due(asked[i], "table", 5, sizes[i], ASKED);
        }
        x.refused(BAD, "table", 5, 13, 0);
    }

    private static void tableWhat() {
        Run x = promise(24, "0 ASKED, 1 MISSED, 2 WEIGHT. BAD.");
        learn(x, 0, 1, row(60, 62, 64), row(60, 62));
        x.refused(BAD, "table", 0, 2, -1);
        x.due(2, "table", 0, 2, ASKED);
        x.due(1, "table", 0, 2, MISSED);
        x.due(6, "table", 0, 2, WEIGHT);
        x.refused(BAD, "table", 0, 2, 3);
    }

    private static void weightIsCut() {
        Run x = promise(24, "WEIGHT of a SIZE: 1 and 5, if it was not ASKED, else 1 and 10 times MISSED by ASKED (cut)");
        x.due(6, "table", 0, 2, WEIGHT);
        learn(x, 0, 1, row(60, 62), row(60));
        // Missed once; asked 1, 2, 3, .. times
        int[] due = {11, 6, 4, 3, 3, 2, 2, 2, 2, 2, 1, 1};
        x.write(24, 60, 62);
        x.ask("judge");
        for (int weight : due) {
            x.due(weight, "table", 0, 2, WEIGHT);
            x.due(0, "learn", 0);
        }
        learn(x, 1, 0, row(60, 62), row(60, 62));
        x.due(1, "table", 1, 2, WEIGHT);
        // 20 by 3, and 20 by 2
        learn(x, 2, 2, row(60, 62, 64, 66), row(60, 62));
        x.due(7, "table", 2, 2, WEIGHT);
        learn(x, 3, 2, row(60, 62, 64), row(60));
        x.due(11, "table", 3, 2, WEIGHT);
    }

    private static void upToTheLastCall() {
        Run x = promise(24, "An object is used for at most 512 calls after it has been made");
        int[] longest = new int[24];
        for (int i = 0; i < 24; i++) {
            longest[i] = 60 + i % 2;
        }
        x.mean(24, longest);
        x.ask("drop");
        x.ask("judge");
        for (int call = 29; call < 510; call++) {
            x.due(23, "learn", 0);
        }
        tables(x, 0, 1, 481 * 23, 481 * 23);
        x.due(11, "table", 0, 1, WEIGHT);
    }

    private static void drillPupil() {
        Run x = promise(25, "THE DRILL of a PUPIL (0 .. 5) .. BAD.");
        x.write(7, 1, 2, 3);
        x.refused(BAD, "drill", -1);
        x.refused(BAD, "drill", 6);
        x.rowIs(0, 1, 2, 3);
        for (int pupil : new int[] {0, 1, 4, 5}) {
            x.due(42, "drill", pupil);
        }
        x.rowIs(1, 24, 24, 24, 24, 24, 24, 24, 24);
    }

    private static void drillOfOnePitchAndSixteen() {
        Run x = promise(25, "the MELODY by THE RULE of which the WEIGHTS of all steps' SIZES together are greatest");
        x.freeMelodies(60, 72, 1);
        x.due(0, "drill", 0);
        x.rowIs(0, 60);
        x.ask("range", 60, 72, 2);
        x.due(6, "drill", 0);
        x.rowIs(0, 60, 60);
        learn(x, 0, 1, row(60, 72), row(60));
        x.ask("range", 60, 72, 16);
        x.due(15 * 11, "drill", 0);
        x.rowIs(0, 60, 72, 60, 72, 60, 72, 60, 72, 60, 72, 60, 72, 60, 72, 60, 72);
        x.due(15 * 6, "drill", 1);
    }

    private static void drillOfNone() {
        Run x = promise(25, "NONE: there is no MELODY (THE ROW stays). BAD.");
        x.mean(7, 1, 2, 3);
        x.ask("judge");
        x.ask("bits", 3, 0);
        x.refused(NONE, "drill", 0);
        x.refused(BAD, "drill", 6);
        x.refused(BAD, "drill", -1);
        x.rowIs(0, 1, 2, 3);
        x.due(3, "count", 2);
        // Steps there are, but none leads to the last class.
        x.ask("bits", 3, (1 << 25) - 1);
        x.ask("bits", 2, 0b10);
        x.refused(NONE, "drill", 0);
        x.ask("bits", 2, 1);
        // Just one melody, of one pitch, weighs 0: that is not none.
        x.ask("range", 60, 71, 1);
        x.due(0, "drill", 0);
        x.rowIs(0, 60);
        x.due(NONE, "count", 2);
    }

    private static void drillKeepsTheRule() {
        Run x = promise(25, "the MELODY by THE RULE of which the WEIGHTS are greatest");
        // 12 weighs 11. The step back behind a leap is lighter, but must be.
        learn(x, 0, 1, row(60, 72), row(60));
        x.freeMelodies(48, 73, 4);
        x.ask("bound", 0, 5);
        x.due(11 + 6 + 11, "drill", 0);
        x.rowIs(0, 48, 60, 58, 70);
        // 12 leads to no last pitch that may be.
        x.freeMelodies(60, 72, 2);
        x.ask("bits", 1, 0b1);
        x.ask("bits", 2, 0b10);
        x.due(6, "drill", 0);
        x.rowIs(0, 60, 61);
        // No more than one repeat, though 0 weighs most
        learn(x, 1, 1, row(60, 60), row(60));
        x.freeMelodies(60, 61, 4);
        x.ask("bound", 1, 1);
        x.due(11 + 6 + 11, "drill", 1);
        x.rowIs(0, 60, 60, 61, 61);
    }

    private static void drillOfTies() {
        Run x = promise(25, "of several the first in ORDER");
        x.freeMelodies(60, 62, 3);
        x.due(12, "drill", 0);
        x.rowIs(0, 60, 60, 60);
        // A step of 0 weighs 1 now: of those without one 60 61 60 is the first.
        learn(x, 0, 0, row(60, 60), row(60, 60));
        x.due(12, "drill", 0);
        x.rowIs(0, 60, 61, 60);
        // A step of 1 weighs 1, too: 60 62 60
        learn(x, 0, 0, row(60, 61), row(60, 61));
        x.due(12, "drill", 0);
        x.rowIs(0, 60, 62, 60);
        x.ask("bits", 1, 0b110);
        x.due(12, "drill", 0);
        x.rowIs(0, 62, 60, 62);
    }

    private static void drillOfSizeTwelve() {
        Run x = promise(25, "the WEIGHTS of all steps' SIZES (0 .. 12)");
        x.freeMelodies(60, 73, 2);
        // 13 was missed, which stands with 12.
        learn(x, 0, 1, row(60, 73), row(60));
        x.due(11, "drill", 0);
        x.rowIs(0, 60, 72);
        learn(x, 1, 1, row(60, 60), row(60));
        x.due(11, "drill", 1);
        x.rowIs(0, 60, 60);
        learn(x, 2, 1, row(60, 49), row(60));
        x.due(11, "drill", 2);
        x.rowIs(0, 60, 71);
    }
}
