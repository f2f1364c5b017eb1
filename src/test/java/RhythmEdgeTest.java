import java.util.Arrays;

/** The boundary cases of promises 11 to 14: bars, some, rhythms, rhythm. */
public final class RhythmEdgeTest {
    private static final int BAD = EarSchool.BAD, NONE = EarSchool.NONE, FULL = EarSchool.FULL;
    private static final long MANY = 1000000000000000000L;
    private static final Check check = new Check();

    public static void main(String[] args) {
        barsMany();
        barsBeat();
        someLength();
        someOfSix();
        someTold();
        atMost24();
        endOfTheBar();
        orderOverBars();
        noneAndOne();
        rhythmNumber();
        rhythmOfVeryMany();
        check.finish();
    }

    private static Run promise(int number, String words) {
        return new Run(check, number, words);
    }

    private static void some(Run x, int... lengths) {
        for (int length : lengths) {
            x.ask("some", length, 1);
        }
    }

    private static void barsMany() {
        Run x = promise(11, "so many BARS (1 .. 6)");
        some(x, 48);
        x.refused(BAD, "bars", 0, 48);
        for (int many : new int[] {1, 2, 5, 6}) {
            x.due(1, "bars", many, 48);
            x.due(many, "rhythm", 0);
        }
        x.refused(BAD, "bars", 7, 48);
        x.due(6, "rhythm", 0);
    }

    private static void barsBeat() {
        Run x = promise(11, "of a BEAT (1 .. 96) each");
        some(x, 1, 2, 95, 96);
        x.refused(BAD, "bars", 3, 0);
        int[] beats = {1, 2, 95, 96};
        for (int beat : beats) {
            x.due(1, "bars", 3, beat);
            long last = x.ask("rhythms") - 1;
            x.due(3, "rhythm", last);
            x.rowIs(1, beat, beat, beat);
        }
        x.refused(BAD, "bars", 3, 97);
        x.due(1, "bars", 1, 1);
        x.due(1, "rhythms");
    }

    private static void someLength() {
        Run x = promise(12, "A LENGTH (1 .. 96) is one of SOME, or no more");
        for (int on = 0; on <= 1; on++) {
            x.refused(BAD, "some", 0, on);
            x.refused(BAD, "some", 97, on);
        }
        for (int length : new int[] {1, 2, 95, 96}) {
            x.due(0, "some", length, 0);
            x.due(0, "some", length, 1);
            x.due(1, "some", length, 1);
        }
        x.due(4, "count", 4);
        for (int length : new int[] {1, 2, 95, 96}) {
            x.due(1, "some", length, 0);
            x.due(0, "some", length, 0);
        }
        x.due(0, "count", 4);
    }

    private static void someOfSix() {
        Run x = promise(12, "LENGTHS out of SOME (6 at most, unlike, told) .. BAD; FULL.");
        for (int i = 1; i <= 6; i++) {
            x.due(0, "some", 12 * i, 1);
            x.due(i, "count", 4);
        }
        x.refused(FULL, "some", 5, 1);
        x.refused(FULL, "some", 96, 1);
        x.refused(BAD, "some", 0, 1);
        x.refused(BAD, "some", 97, 1);
        x.due(6, "count", 4);
        x.due(1, "some", 36, 0);
        x.due(0, "some", 5, 1);
        x.refused(FULL, "some", 36, 1);
    }

    private static void someTold() {
        Run x = promise(12, "whether it was (1, 0)");
        some(x, 12, 24, 36, 48, 60, 72);
        // Nothing is to be put in, so that nothing is too many.
        x.refused(1, "some", 12, 1);
        x.refused(1, "some", 72, 1);
        x.refused(0, "some", 5, 0);
        x.due(6, "count", 4);
    }

    private static void atMost24() {
        Run x = promise(13, "rows of LENGTHS out of SOME, 24 at most");
        some(x, 1);
        int[] beats = {23, 24, 25};
        int[] due = {1, 1, 0};
        for (int i = 0; i < beats.length; i++) {
            x.ask("bars", 1, beats[i]);
            x.due(due[i], "rhythms");
        }
        x.ask("bars", 6, 4);
        x.due(24, "rhythm", 0);
        x.ask("bars", 5, 5);
        x.due(0, "rhythms");
        // Of 25 with one 2 there are 24 notes; that without a 2 has one too many.
        some(x, 2);
        x.ask("bars", 1, 25);
        x.due(121393 - 1, "rhythms");
        x.due(24, "rhythm", 0);
        x.due(24, "rhythm", 2);
        x.due(23, "rhythm", 3);
        x.due(13, "rhythm", 121391);
        // Of 48 only 24 of 2 are few enough, of 49 none are.
        x.ask("bars", 1, 48);
        x.due(1, "rhythms");
        x.ask("bars", 1, 49);
        x.due(0, "rhythms");
    }

    private static void endOfTheBar() {
        Run x = promise(13, "that fill so many BARS of a BEAT each, none beyond the end of its BAR");
        some(x, 2);
        x.ask("bars", 2, 1);
        x.due(0, "rhythms");
        x.ask("bars", 2, 2);
        x.due(1, "rhythms");
        x.ask("bars", 2, 3);
        x.due(0, "rhythms");
        some(x, 1);
        // 1 1 1, 1 2, 2 1 in each bar: 1 2 over the end and 1 behind it is none.
        x.due(9, "rhythms");
        x.ask("bars", 1, 6);
        x.due(13, "rhythms");
        x.ask("bars", 6, 1);
        x.due(1, "rhythms");
        x.ask("some", 1, 0);
        some(x, 95, 96);
        x.ask("bars", 6, 96);
        x.ask("some", 2, 0);
        x.due(1, "rhythms");
        x.ask("bars", 6, 95);
        x.due(1, "rhythms");
        x.ask("bars", 6, 94);
        x.due(0, "rhythms");
    }

    private static void orderOverBars() {
        Run x = promise(14, "none beyond the end of its BAR .. In ORDER they stand by their first LENGTH, "
                + "then by the second, and so on");
        some(x, 1, 2);
        x.ask("bars", 2, 3);
        int[][] bars = {{1, 1, 1}, {1, 2}, {2, 1}};
        for (int k = 0; k < 9; k++) {
            int[] first = bars[k / 3];
            int[] second = bars[k % 3];
            int[] both = Arrays.copyOf(first, first.length + second.length);
            System.arraycopy(second, 0, both, first.length, second.length);
            x.due(both.length, "rhythm", k);
            x.rowIs(1, both);
        }
        x.refused(NONE, "rhythm", 9);
    }

    private static void noneAndOne() {
        Run x = promise(13, "HOW MANY RHYTHMS.");
        x.due(0, "rhythms");
        x.refused(NONE, "rhythm", 0);
        some(x, 47);
        x.due(0, "rhythms");
        some(x, 48);
        x.due(1, "rhythms");
        some(x, 49);
        x.due(1, "rhythms");
        some(x, 1);
        // 1 47, 47 1 and 48 in each bar; 48 of 1 are too many
        x.due(9, "rhythms");
        x.ask("some", 47, 0);
        x.due(1, "rhythms");
        x.ask("some", 48, 0);
        x.due(0, "rhythms");
    }

    private static void rhythmNumber() {
        Run x = promise(14, "RHYTHM NUMBER k becomes THE ROW, each PITCH 60: how many NOTES; NONE: likewise. BAD.");
        some(x, 3, 1, 2);
        x.ask("bars", 1, 3);
        x.write(7, 5, 6);
        x.refused(BAD, "rhythm", -1);
        x.refused(NONE, "rhythm", 4);
        x.rowIs(0, 5, 6);
        int[][] all = {{1, 1, 1}, {1, 2}, {2, 1}, {3}};
        for (int k = 0; k < 4; k++) {
            x.due(all[k].length, "rhythm", k);
            x.rowIs(1, all[k]);
            for (int i = 0; i < all[k].length; i++) {
                x.due(60, "at", i, 0);
            }
        }
        x.refused(NONE, "rhythm", 4);
        x.rowIs(1, 3);
    }

    private static void rhythmOfVeryMany() {
        Run x = promise(14, "NONE: likewise (of a k of 1000000000000000000 and above, too; THE ROW stays)");
        some(x, 1, 2, 3, 4, 5, 6);
        x.ask("bars", 1, 84);
        long many = x.ask("rhythms");
        x.due(14, "rhythm", many - 1);
        x.refused(NONE, "rhythm", many);
        x.refused(NONE, "rhythm", MANY - 1);
        x.refused(NONE, "rhythm", MANY);
        x.refused(NONE, "rhythm", MANY + 1);
        x.refused(NONE, "rhythm", Long.MAX_VALUE);
        x.refused(BAD, "rhythm", Long.MIN_VALUE);
        x.due(24, "rhythm", 0);
    }
}
