/** The boundary cases of promises 1 to 4 and 26: a new object, note, drop, at, count. */
public final class RowEdgeTest {
    private static final int BAD = EarSchool.BAD, FULL = EarSchool.FULL, NONE = EarSchool.NONE, NOT = EarSchool.NOT;
    private static final Check check = new Check();

    public static void main(String[] args) {
        newIsEmpty();
        newRule();
        newBars();
        newVoices();
        notePitch();
        noteLength();
        noteFull();
        noteFullBehindRhythm();
        dropOfEmptyAndFull();
        atIndex();
        atWhat();
        countWhat();
        countOfActs();
        countOfMost();
        check.finish();
    }

    private static Run promise(int number, String words) {
        return new Run(check, number, words);
    }

    private static void newIsEmpty() {
        Run x = promise(1, "An empty ROW, nothing MEANT, no MASKS, empty tables.");
        for (int what : new int[] {0, 1, 3, 4}) {
            x.due(0, "count", what);
        }
        x.due(NONE, "count", 2);
        x.refused(BAD, "at", 0, 0);
        x.refused(NOT, "act", 0, 0);
        x.refused(NOT, "learn", 0);
        x.refused(BAD, "chord", 0, 0, 0);
        for (int pupil = 0; pupil < 6; pupil++) {
            for (int size = 0; size <= 12; size++) {
                x.due(0, "table", pupil, size, 0);
                x.due(0, "table", pupil, size, 1);
            }
        }
        x.due(0, "judge");
        x.due(0, "count", 2);
    }

    private static void newRule() {
        Run x = promise(1, "At first: LOW 60, HIGH 72, n 8, SCALE 2741, BEGIN 4095, END 1, STEPS 1023 * 2^8, "
                + "LEAP 5, REPEATS 1.");
        x.due(8, "count", 5);
        x.due(44689, "melodies");
        x.due(2741, "bits", 0, 4095);
        x.due(4095, "bits", 1, 4095);
        x.due(1, "bits", 2, 4095);
        x.due(1023 * 256, "bits", 3, 1 << 12);
        x.due(5, "bound", 0, 13);
        x.due(1, "bound", 1, 15);
        // Only the step of 0 is left: a melody for each pitch.
        x.due(13, "melodies");
        x.due(1, "melody", 0);
        x.due(60, "at", 0, 0);
        x.due(1, "melody", 12);
        x.due(72, "at", 0, 0);
        x.refused(NONE, "melody", 13);
    }

    private static void newBars() {
        Run x = promise(1, "At first: 2 BARS, BEAT 48, SOME: none.");
        x.due(0, "count", 4);
        x.due(0, "rhythms");
        x.due(0, "some", 48, 1);
        x.due(0, "some", 49, 1);
        x.due(1, "rhythms");
        x.due(2, "rhythm", 0);
        x.rowIs(1, 48, 48);
    }

    private static void newVoices() {
        Run x = promise(1, "each from its voice's LOWEST (0 .. 116; 48, 55, 64 at first); MOST (0 .. 12; 5 at first)");
        x.due(48, "voice", 0, 48);
        x.due(55, "voice", 1, 55);
        x.due(64, "voice", 2, 64);
        x.due(5, "voice", 3, 5);
    }

    private static void notePitch() {
        Run x = promise(2, "A NOTE has a PITCH (0 .. 127)");
        x.refused(BAD, "note", -1, 24);
        x.due(1, "note", 0, 24);
        x.due(2, "note", 1, 24);
        x.due(3, "note", 126, 24);
        x.due(4, "note", 127, 24);
        x.refused(BAD, "note", 128, 24);
        x.rowIs(0, 0, 1, 126, 127);
    }

    private static void noteLength() {
        Run x = promise(2, "and a LENGTH (1 .. 96)");
        x.refused(BAD, "note", 60, 0);
        x.due(1, "note", 60, 1);
        x.due(2, "note", 60, 2);
        x.due(3, "note", 60, 95);
        x.due(4, "note", 60, 96);
        x.refused(BAD, "note", 60, 97);
        x.rowIs(1, 1, 2, 95, 96);
    }

    private static void noteFull() {
        Run x = promise(2, "THE ROW has 24 NOTES at most.");
        for (int i = 1; i <= 24; i++) {
            x.due(i, "note", 40 + i, i);
        }
        x.refused(FULL, "note", 60, 24);
        x.due(24, "count", 0);
        x.due(64, "at", 23, 0);
        x.refused(BAD, "note", 128, 24);
        x.refused(BAD, "note", 60, 97);
        x.due(24, "drop");
        x.due(1, "note", 60, 24);
    }

    private static void noteFullBehindRhythm() {
        Run x = promise(2, "A NOTE more of THE ROW: how many. BAD; FULL.");
        x.ask("some", 1, 1);
        x.ask("bars", 1, 23);
        x.due(23, "rhythm", 0);
        x.due(24, "note", 60, 24);
        x.refused(FULL, "note", 60, 24);
        x.ask("bars", 1, 24);
        x.due(24, "rhythm", 0);
        x.refused(FULL, "note", 60, 24);
        x.ask("range", 60, 72, 16);
        x.due(1, "melody", 0);
        x.due(17, "note", 60, 24);
    }

    private static void dropOfEmptyAndFull() {
        Run x = promise(3, "THE ROW is empty: how many it had.");
        x.due(0, "drop");
        x.due(1, "note", 60, 24);
        x.due(1, "drop");
        x.due(0, "drop");
        for (int i = 1; i <= 24; i++) {
            x.ask("note", 60, 24);
        }
        x.due(24, "drop");
        x.due(0, "count", 0);
        x.refused(BAD, "at", 0, 0);
    }

    private static void atIndex() {
        Run x = promise(4, "Of NOTE i of THE ROW .. BAD.");
        x.refused(BAD, "at", 0, 0);
        x.ask("note", 60, 24);
        x.due(60, "at", 0, 0);
        x.refused(BAD, "at", 1, 0);
        for (int i = 1; i < 24; i++) {
            x.ask("note", 60 + i, 24 + i);
        }
        x.refused(BAD, "at", -1, 0);
        x.due(60, "at", 0, 0);
        x.due(61, "at", 1, 0);
        x.due(82, "at", 22, 0);
        x.due(83, "at", 23, 0);
        x.due(47, "at", 23, 1);
        x.refused(BAD, "at", 24, 0);
        x.ask("drop");
        // What stood there before is gone, though nothing was written over it.
        x.refused(BAD, "at", 0, 0);
        x.ask("note", 1, 2);
        x.refused(BAD, "at", 1, 1);
    }

    private static void atWhat() {
        Run x = promise(4, "0 its PITCH, 1 its LENGTH. BAD.");
        x.ask("note", 60, 24);
        x.refused(BAD, "at", 0, -1);
        x.due(60, "at", 0, 0);
        x.due(24, "at", 0, 1);
        x.refused(BAD, "at", 0, 2);
    }

    private static void countWhat() {
        Run x = promise(26, "0 NOTES of THE ROW .. 5 n. BAD.");
        x.ask("note", 60, 24);
        x.refused(BAD, "count", -1);
        x.due(1, "count", 0);
        x.due(0, "count", 1);
        x.due(0, "count", 4);
        x.due(8, "count", 5);
        x.refused(BAD, "count", 6);
    }

    private static void countOfActs() {
        Run x = promise(26, "2 ACTS (NONE: nothing is JUDGED)");
        x.due(NONE, "count", 2);
        x.ask("judge");
        x.due(0, "count", 2);
        x.ask("note", 60, 24);
        x.due(NONE, "count", 2);
        x.ask("judge");
        x.due(1, "count", 2);
        x.ask("meant");
        x.due(NONE, "count", 2);
    }

    private static void countOfMost() {
        Run x = promise(26, "0 NOTES of THE ROW, 1 of MEANT, 2 ACTS, 3 MASKS, 4 how many of SOME, 5 n");
        for (int i = 1; i <= 24; i++) {
            x.ask("note", 60, i);
        }
        x.ask("meant");
        x.ask("judge");
        for (int i = 1; i <= 6; i++) {
            x.ask("mask", i);
            x.ask("some", i, 1);
        }
        x.ask("range", 60, 60, 16);
        int[] most = {24, 24, 24, 6, 6, 16};
        for (int what = 0; what < 6; what++) {
            x.due(most[what], "count", what);
        }
        x.ask("note", 60, 24);
        x.ask("mask", 1);
        x.ask("some", 7, 1);
        x.ask("range", 60, 60, 17);
        for (int what = 0; what < 6; what++) {
            x.due(most[what], "count", what);
        }
    }
}
