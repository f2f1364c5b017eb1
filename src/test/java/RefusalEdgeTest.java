/**
 * "Refused, and nothing changes, the first that fits: BAD (a number out of its bounds), NOT (not now: nothing
 * is JUDGED since MEANT, or since THE ROW was changed, drop() of an empty one too), FULL."
 */
public final class RefusalEdgeTest {
    private static final int BAD = EarSchool.BAD, NONE = EarSchool.NONE, NOT = EarSchool.NOT, FULL = EarSchool.FULL;
    private static final int LEAST = Integer.MIN_VALUE, MOST = Integer.MAX_VALUE;
    private static final Check check = new Check();

    public static void main(String[] args) {
        farOutOfBounds();
        badAheadOfFull();
        badAheadOfNot();
        changesOfTheRow();
        dropOfAnEmptyRow();
        meantForgets();
        refusedKeepsJudged();
        othersKeepJudged();
        objectsApart();
        check.finish();
    }

    private static Run promise(int number, String words) {
        return new Run(check, number, words);
    }

    /** Something of everything: meant, answered, judged and learnt, some lengths, masks and a rule. */
    private static Run busy(int number, String words) {
        Run x = promise(number, words);
        x.ask("range", 59, 74, 3);
        x.ask("bound", 0, 4);
        x.ask("bars", 3, 5);
        x.ask("some", 2, 1);
        x.ask("some", 3, 1);
        x.ask("mask", 145);
        x.ask("mask", 545);
        x.ask("voice", 3, 6);
        x.mean(24, 60, 62, 65);
        x.write(12, 60, 65, 65);
        x.ask("judge");
        x.ask("learn", 2);
        return x;
    }

    private static void refused(int number, long want, String name, long... numbers) {
        busy(number, "Refused, and nothing changes, the first that fits").refused(want, name, numbers);
    }

    private static void farOutOfBounds() {
        for (int far : new int[] {LEAST, LEAST + 1, MOST - 1, MOST}) {
            farOutInTheRow(far);
            farOutInMelodiesAndRhythms(far);
            farOutInChords(far);
            farOutInJudging(far);
        }
        // Differences and sums of these go around an int's end.
        refused(5, BAD, "range", LEAST, MOST, 3);
        refused(5, BAD, "range", MOST, LEAST, 3);
        refused(5, BAD, "range", LEAST, LEAST, 3);
        refused(5, BAD, "range", MOST, MOST, 3);
        refused(9, BAD, "melody", Long.MIN_VALUE);
        refused(9, NONE, "melody", Long.MAX_VALUE);
        refused(14, BAD, "rhythm", Long.MIN_VALUE);
        refused(14, NONE, "rhythm", Long.MAX_VALUE);
        refused(19, BAD, "chord", Long.MIN_VALUE, 0, 0);
        refused(19, NONE, "chord", Long.MAX_VALUE, 0, 0);
        // Cut to an int this would be 0.
        refused(9, NONE, "melody", 1L << 32);
        refused(14, NONE, "rhythm", 1L << 32);
        refused(19, NONE, "chord", 1L << 32, 0, 0);
    }

    private static void farOutInTheRow(int far) {
        refused(2, BAD, "note", far, 24);
        refused(2, BAD, "note", 60, far);
        refused(4, BAD, "at", far, 0);
        refused(4, BAD, "at", 0, far);
        refused(26, BAD, "count", far);
    }

    private static void farOutInMelodiesAndRhythms(int far) {
        refused(5, BAD, "range", far, 70, 3);
        refused(5, BAD, "range", 60, far, 3);
        refused(5, BAD, "range", 60, 70, far);
        for (int way = 0; way < 4; way++) {
            refused(6, BAD, "bits", way, far);
        }
        refused(6, BAD, "bits", far, 1);
        refused(7, BAD, "bound", 0, far);
        refused(7, BAD, "bound", 1, far);
        refused(7, BAD, "bound", far, 1);
        refused(11, BAD, "bars", far, 5);
        refused(11, BAD, "bars", 3, far);
        refused(12, BAD, "some", far, 1);
        refused(12, BAD, "some", far, 0);
    }

    private static void farOutInChords(int far) {
        refused(15, BAD, "mask", far);
        for (int way = 0; way < 4; way++) {
            refused(17, BAD, "voice", way, far);
        }
        refused(17, BAD, "voice", far, 1);
        refused(19, BAD, "chord", 0, far, 0);
        refused(19, BAD, "chord", 0, 0, far);
    }

    private static void farOutInJudging(int far) {
        refused(22, BAD, "act", far, 0);
        refused(22, BAD, "act", 0, far);
        refused(23, BAD, "learn", far);
        refused(24, BAD, "table", far, 0, 0);
        refused(24, BAD, "table", 2, far, 0);
        refused(24, BAD, "table", 2, 0, far);
        refused(25, BAD, "drill", far);
    }

    private static void badAheadOfFull() {
        Run x = promise(2, "the first that fits: BAD, NOT, FULL");
        for (int i = 0; i < 24; i++) {
            x.ask("note", 60, 24);
        }
        x.refused(BAD, "note", 128, 24);
        x.refused(BAD, "note", 60, 0);
        x.refused(FULL, "note", 60, 24);
        Run y = promise(12, "the first that fits: BAD, NOT, FULL");
        for (int i = 1; i <= 6; i++) {
            y.ask("some", i, 1);
        }
        y.refused(BAD, "some", 97, 1);
        y.refused(FULL, "some", 96, 1);
        Run z = promise(15, "the first that fits: BAD, NOT, FULL");
        for (int i = 1; i <= 6; i++) {
            z.ask("mask", 1);
        }
        z.refused(BAD, "mask", 0);
        z.refused(FULL, "mask", 1);
    }

    private static void badAheadOfNot() {
        Run x = promise(22, "the first that fits: BAD, NOT, FULL");
        x.refused(BAD, "act", 0, 4);
        x.refused(NOT, "act", 0, 3);
        Run y = promise(23, "the first that fits: BAD, NOT, FULL");
        y.refused(BAD, "learn", 6);
        y.refused(NOT, "learn", 5);
    }

    private static void forgotten(Run x) {
        x.due(NONE, "count", 2);
        x.refused(NOT, "act", 0, 0);
        x.refused(NOT, "learn", 0);
        x.ask("judge");
        x.due(0, "act", 0, 0);
    }

    private static void changesOfTheRow() {
        String words = "NOT (not now: nothing is JUDGED since THE ROW was changed";
        Run note = busy(2, words);
        note.ask("note", 60, 24);
        forgotten(note);
        Run melody = busy(9, words);
        melody.due(1, "melody", 0);
        forgotten(melody);
        Run rhythm = busy(14, words);
        rhythm.due(6, "rhythm", 0);
        forgotten(rhythm);
        Run drill = busy(25, words);
        drill.ask("drill", 0);
        forgotten(drill);
        Run drop = busy(3, words);
        drop.due(3, "drop");
        drop.due(NONE, "count", 2);
        drop.refused(NOT, "act", 0, 0);
        drop.refused(NOT, "learn", 0);
    }

    private static void dropOfAnEmptyRow() {
        Run x = promise(3, "drop() of an empty one too");
        x.ask("judge");
        x.due(0, "count", 2);
        x.due(0, "learn", 0);
        x.due(0, "drop");
        x.due(NONE, "count", 2);
        x.refused(NOT, "learn", 0);
        x.refused(NOT, "act", 0, 0);
        x.ask("judge");
        x.due(0, "learn", 0);
    }

    private static void meantForgets() {
        Run x = busy(20, "NOT (not now: nothing is JUDGED since MEANT");
        x.ask("meant");
        forgotten(x);
        // The same once more, and of an empty row
        x.ask("meant");
        forgotten(x);
        Run y = promise(20, "NOT (not now: nothing is JUDGED since MEANT");
        y.ask("judge");
        y.due(0, "meant");
        y.refused(NOT, "learn", 0);
    }

    private static void refusedKeepsJudged() {
        Run x = busy(21, "Refused, and nothing changes");
        x.ask("note", 128, 24);
        x.ask("melody", -1);
        x.ask("melody", Long.MAX_VALUE);
        x.ask("rhythm", -1);
        x.ask("rhythm", Long.MAX_VALUE);
        x.ask("drill", 6);
        x.ask("act", 0, 4);
        x.ask("learn", 6);
        x.due(3, "count", 2);
        x.ask("bits", 3, 0);
        x.refused(NONE, "drill", 0);
        x.refused(NONE, "melody", 0);
        x.due(3, "count", 2);
        x.due(0, "act", 0, 0);
        Run full = promise(21, "Refused, and nothing changes");
        for (int i = 0; i < 24; i++) {
            full.ask("note", 60, 24);
        }
        full.ask("judge");
        full.refused(FULL, "note", 60, 24);
        full.due(24, "count", 2);
        full.due(0, "learn", 0);
    }

    private static void othersKeepJudged() {
        Run x = busy(22, "nothing is JUDGED since MEANT, or since THE ROW was changed");
        x.ask("range", 60, 72, 4);
        x.ask("bits", 0, 4095);
        x.ask("bound", 1, 2);
        x.ask("melodies");
        x.ask("place");
        x.ask("bars", 1, 4);
        x.ask("some", 4, 1);
        x.ask("rhythms");
        x.ask("mask", 1);
        x.ask("chords");
        x.ask("chord", 0, 0, 0);
        x.ask("voice", 0, 50);
        x.ask("clear");
        x.ask("at", 0, 0);
        x.ask("table", 0, 0, 2);
        x.ask("learn", 1);
        x.due(3, "count", 2);
        x.due(0, "act", 0, 0);
        x.due(3, "act", 1, 3);
        x.due(0, "count", 3);
    }

    private static void objectsApart() {
        Run x = busy(1, "A new object");
        Run y = promise(1, "An empty ROW, nothing MEANT, no MASKS, empty tables.");
        y.due(0, "count", 0);
        y.due(0, "count", 1);
        y.due(0, "count", 3);
        y.due(0, "count", 4);
        y.due(8, "count", 5);
        y.due(0, "table", 2, 2, 0);
        x.due(3, "count", 0);
        x.due(1, "table", 2, 2, 0);
    }
}
