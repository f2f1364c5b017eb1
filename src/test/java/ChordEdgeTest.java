import java.util.Arrays;

/** The boundary cases of promises 15 to 19: mask, clear, voice, chords, chord. */
public final class ChordEdgeTest {
    private static final int BAD = EarSchool.BAD, NONE = EarSchool.NONE, FULL = EarSchool.FULL;
    private static final Check check = new Check();

    public static void main(String[] args) {
        maskBits();
        maskOfOneToThree();
        maskOfSix();
        clearOfNoneAndAll();
        voiceLowest();
        voiceMost();
        voiceWay();
        fromLowestToElevenAbove();
        twelveAboveIsTooHigh();
        voicesTakeEffect();
        rising();
        justTheClasses();
        goesMost();
        parallelFifths();
        parallelOctaves();
        otherWays();
        withoutAMask();
        chordNumber();
        chordsInOrder();
        chordOfThreesAndVoices();
        check.finish();
    }

    private static Run promise(int number, String words) {
        return new Run(check, number, words);
    }

    private static int classes(int... ofMask) {
        int mask = 0;
        for (int c : ofMask) {
            mask |= 1 << c;
        }
        return mask;
    }

    private static void voices(Run x, int below, int between, int above, int most) {
        x.ask("voice", 0, below);
        x.ask("voice", 1, between);
        x.ask("voice", 2, above);
        x.ask("voice", 3, most);
    }

    /** How many rows of two threes there are for these masks, each voice in an octave of its own. */
    private static void twoMasks(Run x, long due, int most, int first, int second) {
        voices(x, 48, 60, 72, most);
        x.ask("clear");
        x.ask("mask", first);
        x.ask("mask", second);
        x.due(due, "chords");
    }

    /** Whether the threes, one behind the other, are one of the chords. */
    private static boolean has(Run x, int... pitches) {
        long many = x.ask("chords");
        boolean found = false;
        for (long k = 0; k < many && !found; k++) {
            int[] got = new int[pitches.length];
            for (int p = 0; p < got.length; p++) {
                got[p] = (int) x.ask("chord", k, p / 3, p % 3);
            }
            found = Arrays.equals(got, pitches);
        }
        return found;
    }

    private static void maskBits() {
        Run x = promise(15, "its MASK (12 bits");
        x.refused(BAD, "mask", -1);
        x.refused(BAD, "mask", 0);
        x.due(1, "mask", 1);
        x.due(2, "mask", 2);
        x.due(3, "mask", 2048);
        x.due(4, "mask", classes(9, 10, 11));
        x.refused(BAD, "mask", 4096);
        x.refused(BAD, "mask", 4097);
    }

    private static void maskOfOneToThree() {
        Run x = promise(15, "1 to 3 of them, told one by one");
        x.refused(BAD, "mask", 0);
        x.due(1, "mask", classes(5));
        x.due(2, "mask", classes(5, 11));
        x.due(3, "mask", classes(0, 5, 11));
        x.refused(BAD, "mask", classes(0, 4, 5, 11));
        x.refused(BAD, "mask", 4095);
    }

    private static void maskOfSix() {
        Run x = promise(15, "CHORDS are rows of 1 to 6 threes .. A MASK more: how many. BAD; FULL.");
        for (int i = 1; i <= 6; i++) {
            x.due(i, "mask", classes(0, 4, 7));
            x.due(i, "count", 3);
        }
        x.refused(FULL, "mask", classes(0, 4, 7));
        x.refused(BAD, "mask", 0);
        x.refused(BAD, "mask", 15);
        x.refused(BAD, "mask", 4096);
        x.due(6, "count", 3);
        x.due(6, "clear");
        x.due(1, "mask", 1);
    }

    private static void clearOfNoneAndAll() {
        Run x = promise(16, "No MASKS any more: how many there were.");
        x.due(0, "clear");
        x.ask("mask", 1);
        x.due(1, "chords");
        x.due(1, "clear");
        x.due(0, "count", 3);
        x.due(0, "chords");
        x.refused(BAD, "chord", 0, 0, 0);
        x.due(0, "clear");
        for (int i = 0; i < 6; i++) {
            x.ask("mask", 1);
        }
        x.due(6, "clear");
        x.due(0, "count", 3);
    }

    private static void voiceLowest() {
        Run x = promise(17, "each from its voice's LOWEST (0 .. 116");
        int[] first = {48, 55, 64};
        for (int way = 0; way < 3; way++) {
            x.setFrom(0, 116, first[way], "voice", way);
        }
    }

    private static void voiceMost() {
        Run x = promise(17, "MOST (0 .. 12");
        x.setFrom(0, 12, 5, "voice", 3);
    }

    private static void voiceWay() {
        Run x = promise(17, "LOWEST of voice 0, 1, 2 (way 0 .. 2), MOST (3): what it was. BAD.");
        x.refused(BAD, "voice", -1, 5);
        x.due(48, "voice", 0, 5);
        x.due(64, "voice", 2, 64);
        x.due(5, "voice", 3, 5);
        x.refused(BAD, "voice", 4, 5);
    }

    private static void fromLowestToElevenAbove() {
        Run x = promise(18, "each from its voice's LOWEST to 11 above it");
        voices(x, 48, 60, 72, 12);
        int[][] threes = {{48, 60, 72}, {49, 61, 73}, {58, 70, 82}, {59, 71, 83}};
        for (int[] three : threes) {
            x.ask("clear");
            x.ask("mask", classes(three[0] % 12));
            x.due(1, "chords");
            for (int v = 0; v < 3; v++) {
                x.due(three[v], "chord", 0, 0, v);
            }
        }
        // From 49 on the next 0 is 60, which is 11 above.
        voices(x, 49, 61, 73, 12);
        x.ask("clear");
        x.ask("mask", classes(0));
        check.isTrue("promise 18: 11 above each LOWEST", has(x, 60, 72, 84));
        voices(x, 0, 0, 0, 12);
        x.ask("clear");
        x.ask("mask", classes(0, 1, 11));
        check.isTrue("promise 18: the lowest pitches", has(x, 0, 1, 11));
        voices(x, 116, 116, 116, 12);
        x.ask("clear");
        x.ask("mask", classes(8, 6, 7));
        check.isTrue("promise 18: the highest pitches", has(x, 116, 126, 127));
        x.due(1, "chords");
    }

    private static void twelveAboveIsTooHigh() {
        Run x = promise(18, "each from its voice's LOWEST to 11 above it");
        // Between and above leave so much room that each voice could rise by 12.
        voices(x, 48, 72, 96, 12);
        for (int c = 0; c < 12; c += 11) {
            x.ask("clear");
            x.ask("mask", classes(c));
            x.due(1, "chords");
            check.isTrue("promise 18: no more than 11 above", has(x, 48 + c, 72 + c, 96 + c));
        }
    }

    private static void voicesTakeEffect() {
        Run x = promise(18, "LOWEST and MOST as they were set last");
        voices(x, 48, 60, 72, 1);
        x.ask("mask", classes(0));
        x.ask("mask", classes(0, 2));
        x.due(0, "chords");
        x.ask("voice", 3, 2);
        x.due(3, "chords");
        // Class 0 is 72 for between and above then: nothing rises.
        x.ask("voice", 1, 61);
        x.due(0, "chords");
        // From 72 and 84 class 2 is 10 below, so that only below goes.
        x.ask("voice", 2, 73);
        x.due(1, "chords");
    }

    private static void rising() {
        Run x = promise(18, "rising (none the same)");
        x.ask("mask", classes(0));
        int[][] lowest = {{60, 60, 73}, {60, 61, 72}, {60, 61, 73}, {61, 60, 84}};
        int[] due = {0, 0, 1, 0};
        for (int i = 0; i < lowest.length; i++) {
            voices(x, lowest[i][0], lowest[i][1], lowest[i][2], 12);
            x.due(due[i], "chords");
        }
        // One above the other by 1 is enough.
        voices(x, 60, 60, 60, 12);
        x.ask("clear");
        x.ask("mask", classes(0, 1, 2));
        x.due(1, "chords");
        check.isTrue("promise 18: 60 61 62", has(x, 60, 61, 62));
        x.ask("clear");
        x.ask("mask", classes(0, 1));
        x.due(0, "chords");
    }

    private static void justTheClasses() {
        Run x = promise(18, "the CLASSES of the i-th are just those of its MASK");
        voices(x, 48, 60, 72, 12);
        int[] masks = {classes(0), classes(0, 4), classes(0, 4, 7)};
        int[] due = {1, 6, 6};
        for (int i = 0; i < masks.length; i++) {
            x.ask("clear");
            x.ask("mask", masks[i]);
            x.due(due[i], "chords");
        }
        x.ask("clear");
        x.ask("mask", classes(0, 4));
        check.isTrue("promise 18: both classes", has(x, 48, 60, 76));
        check.isTrue("promise 18: one class alone", !has(x, 48, 60, 72));
    }

    private static void goesMost() {
        Run x = promise(18, "from one to the next each voice goes MOST half steps at most, up or down");
        // From three of class 0 just one voice goes up by m, or down to them: two would be parallel.
        for (int m : new int[] {1, 2, 5, 10, 11}) {
            for (int most : new int[] {m - 1, m, m + 1}) {
                twoMasks(x, most < m ? 0 : 3, most, classes(0), classes(0, m));
                twoMasks(x, most < m ? 0 : 3, most, classes(0, m), classes(0));
            }
        }
        twoMasks(x, 1, 0, classes(0), classes(0));
        twoMasks(x, 6, 0, classes(0, 4, 7), classes(0, 4, 7));
    }

    private static void parallelFifths() {
        Run x = promise(18, "of no two voices that both go up, or both go down, is the distance modulo 12 7 in both");
        // 4 stands still, the other two go by 2. Half of the six threes have 0 below, where 7 is 7 above.
        twoMasks(x, 3, 2, classes(0, 4, 7), classes(2, 4, 9));
        twoMasks(x, 3, 2, classes(2, 4, 9), classes(0, 4, 7));
        // The other half has 5 below, where 0 is 7 above.
        twoMasks(x, 3, 2, classes(0, 4, 5), classes(2, 4, 7));
        // 6 and 8 in both
        twoMasks(x, 6, 2, classes(0, 4, 6), classes(2, 4, 8));
        twoMasks(x, 6, 2, classes(0, 4, 8), classes(2, 4, 10));
        // 7 in one of them only
        twoMasks(x, 6, 2, classes(0, 4, 7), classes(2, 4, 8));
        twoMasks(x, 6, 3, classes(0, 4, 6), classes(2, 4, 9));
        // The two of them stand still.
        twoMasks(x, 6, 1, classes(0, 4, 7), classes(0, 5, 7));
        voices(x, 48, 48, 48, 2);
        // 0 4 7 alone rises in one octave: then 0 and 7 are 7 apart, not 19.
        x.ask("clear");
        x.ask("mask", classes(0, 4, 7));
        x.ask("mask", classes(2, 4, 9));
        x.due(0, "chords");
    }

    private static void parallelOctaves() {
        Run x = promise(18, "of no two voices that both go up, or both go down, is the distance modulo 12 0 in both");
        twoMasks(x, 0, 2, classes(0), classes(2));
        twoMasks(x, 0, 2, classes(2), classes(0));
        twoMasks(x, 1, 2, classes(0), classes(0));
        // Where one of two equal classes stands still, or goes by another step, nothing is parallel.
        twoMasks(x, 3, 1, classes(0), classes(0, 1));
        twoMasks(x, 6, 2, classes(0, 4), classes(0, 1, 4));
        // 0 in one of them only: three of class 0 go up to 1, 2 and 3
        twoMasks(x, 6, 3, classes(0), classes(1, 2, 3));
    }

    private static void otherWays() {
        Run x = promise(18, "of no two voices that both go up, or both go down");
        // 19 and 31 are both 7 modulo 12, but below goes down and above goes up.
        voices(x, 48, 60, 72, 6);
        x.ask("mask", classes(1, 4, 6));
        x.ask("mask", classes(0, 4, 7));
        check.isTrue("promise 18: fifths by other ways", has(x, 54, 64, 73, 48, 64, 79));
        voices(x, 48, 60, 73, 6);
        x.ask("clear");
        x.ask("mask", classes(4, 6));
        x.ask("mask", classes(0, 4));
        check.isTrue("promise 18: octaves by other ways", has(x, 54, 64, 78, 48, 64, 84));
    }

    private static void withoutAMask() {
        Run x = promise(18, "HOW MANY CHORDS for all MASKS (without one 0).");
        x.due(0, "chords");
        x.ask("mask", classes(0, 4, 7));
        x.due(6, "chords");
        voices(x, 48, 60, 72, 0);
        long many = 6;
        for (int i = 2; i <= 6; i++) {
            x.ask("mask", classes(0, 4, 7));
            x.due(many, "chords");
        }
        x.ask("clear");
        x.due(0, "chords");
    }

    private static void chordNumber() {
        Run x = promise(19, "Of CHORDS NUMBER k .. NONE: there are not so many. BAD.");
        voices(x, 48, 60, 72, 12);
        x.ask("mask", classes(0, 4, 7));
        x.refused(BAD, "chord", -1, 0, 0);
        int[][] all = {{48, 64, 79}, {48, 67, 76}, {52, 60, 79}, {52, 67, 72}, {55, 60, 76}, {55, 64, 72}};
        for (int k = 0; k < 6; k++) {
            for (int v = 0; v < 3; v++) {
                x.due(all[k][v], "chord", k, 0, v);
            }
        }
        x.refused(NONE, "chord", 6, 0, 0);
        x.refused(NONE, "chord", Long.MAX_VALUE, 0, 0);
        x.refused(BAD, "chord", Long.MIN_VALUE, 0, 0);
        voices(x, 72, 60, 48, 12);
        x.refused(NONE, "chord", 0, 0, 0);
    }

    private static void chordsInOrder() {
        Run x = promise(19, "In ORDER they stand by their first three: by below, between, above, then by the second");
        twoMasks(x, 3, 2, classes(0, 4, 7), classes(2, 4, 9));
        int[][] all = {{52, 67, 72, 52, 69, 74}, {55, 60, 76, 57, 62, 76}, {55, 64, 72, 57, 64, 74}};
        for (int k = 0; k < 3; k++) {
            for (int p = 0; p < 6; p++) {
                x.due(all[k][p], "chord", k, p / 3, p % 3);
            }
        }
        x.refused(NONE, "chord", 3, 1, 2);
        // From one three to several
        twoMasks(x, 3, 1, classes(0), classes(0, 1));
        int[][] ends = {{48, 60, 73}, {48, 61, 72}, {49, 60, 72}};
        for (int k = 0; k < 3; k++) {
            for (int v = 0; v < 3; v++) {
                x.due(ends[k][v], "chord", k, 1, v);
            }
        }
        x.refused(NONE, "chord", 3, 0, 0);
    }

    private static void chordOfThreesAndVoices() {
        Run x = promise(19, "the PITCH of voice v in the i-th three (from 0) .. BAD.");
        x.refused(BAD, "chord", 0, 0, 0);
        voices(x, 48, 60, 72, 0);
        x.ask("mask", classes(0));
        x.refused(BAD, "chord", 0, -1, 0);
        x.due(48, "chord", 0, 0, 0);
        x.refused(BAD, "chord", 0, 1, 0);
        for (int i = 1; i < 6; i++) {
            x.ask("mask", classes(0));
        }
        x.due(48, "chord", 0, 5, 0);
        x.due(72, "chord", 0, 5, 2);
        x.refused(BAD, "chord", 0, 6, 0);
        x.refused(BAD, "chord", 0, 5, -1);
        x.refused(BAD, "chord", 0, 5, 3);
        x.refused(NONE, "chord", 1, 5, 2);
        // BAD is ahead of NONE.
        x.refused(BAD, "chord", 1, 6, 0);
        x.refused(BAD, "chord", 1, 0, 3);
    }
}
