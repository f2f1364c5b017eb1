import java.util.Arrays;

/** Promises 15 to 19: mask, clear, voice, chords, chord. */
public final class ChordTest {
    private static final int BAD = EarSchool.BAD, NONE = EarSchool.NONE, FULL = EarSchool.FULL;
    private static final Check check = new Check();

    public static void main(String[] args) {
        mask();
        voice();
        threes();
        mostAndParallels();
        chord();
        check.finish();
    }

    private static EarSchool of(int below, int between, int above, int most) {
        EarSchool x = new EarSchool();
        x.voice(0, below);
        x.voice(1, between);
        x.voice(2, above);
        x.voice(3, most);
        return x;
    }

    private static void mask() {
        EarSchool x = new EarSchool();
        int[] bad = {0, 15, 4095, 4096, -1, Integer.MIN_VALUE, Integer.MAX_VALUE, 1 << 12, 0b1111};
        for (int b : bad) {
            check.due("mask(" + b + ")", x.mask(b), BAD);
        }
        int[] good = {1, 2048, 3, 7, 0b111000000000, 145};
        for (int i = 0; i < good.length; i++) {
            check.due("mask(" + good[i] + ")", x.mask(good[i]), i + 1);
        }
        check.due("a seventh mask", x.mask(1), FULL);
        check.due("a bad seventh mask", x.mask(0), BAD);
        check.due("count(3)", x.count(3), 6);
        check.due("clear()", x.clear(), 6);
        check.due("clear() again", x.clear(), 0);
        check.due("count(3) behind clear()", x.count(3), 0);
        check.due("chords() behind clear()", x.chords(), 0);
        check.due("chord() behind clear()", x.chord(0, 0, 0), BAD);
        check.due("mask behind clear()", x.mask(1), 1);
    }

    private static void voice() {
        EarSchool x = new EarSchool();
        int[] first = {48, 55, 64, 5};
        int[] most = {116, 116, 116, 12};
        for (int way = 0; way < 4; way++) {
            check.due("voice " + way + " at first", x.voice(way, most[way]), first[way]);
            check.due("voice " + way + " above", x.voice(way, most[way] + 1), BAD);
            check.due("voice " + way + " below", x.voice(way, -1), BAD);
            check.due("voice " + way + " far out", x.voice(way, Integer.MAX_VALUE), BAD);
            check.due("voice " + way + " to 0", x.voice(way, 0), most[way]);
            check.due("voice " + way + " back", x.voice(way, first[way]), 0);
        }
        check.due("voice(-1, 0)", x.voice(-1, 0), BAD);
        check.due("voice(4, 0)", x.voice(4, 0), BAD);
        x.mask(145);
        check.due("chords() as at first", x.chords(), 6);
    }

    private static void threes() {
        EarSchool x = of(48, 60, 72, 12);
        x.mask(0b111);
        check.due("three classes", x.chords(), 6);
        x.clear();
        x.mask(0b11);
        check.due("two classes", x.chords(), 6);
        x.clear();
        x.mask(1);
        check.due("one class", x.chords(), 1);
        int[] due = {48, 60, 72};
        for (int v = 0; v < 3; v++) {
            check.due("voice " + v + " of one class", x.chord(0, 0, v), due[v]);
        }
        EarSchool same = of(60, 60, 60, 12);
        same.mask(0b111);
        check.due("rising in one octave", same.chords(), 1);
        check.due("above of it", same.chord(0, 0, 2), 62);
        same.clear();
        same.mask(0b11);
        check.due("three of two in one octave", same.chords(), 0);
        EarSchool falling = of(72, 60, 48, 12);
        falling.mask(0b111);
        check.due("voices that would fall", falling.chords(), 0);
        EarSchool top = of(116, 116, 116, 12);
        top.mask(0b10000101);
        check.due("the highest", top.chords(), 1);
        check.due("the highest pitch", top.chord(0, 0, 2), 127);
        check.due("11 above the lowest is the last", of(48, 55, 64, 5).chords(), 0);
    }

    private static void mostAndParallels() {
        // below 48, between 60, above 79 (0 0 7) goes to 50, 62, 81 (2 2 9): octaves and fifths
        EarSchool x = of(48, 60, 72, 12);
        x.mask(0b10000001);
        x.mask(0b1000000100);
        long found = 0;
        for (long k = 0; k < x.chords(); k++) {
            check.isTrue("no parallels in " + k, !parallels(three(x, k, 0), three(x, k, 1)));
            found++;
        }
        check.due("all looked at", found, x.chords());
        EarSchool one = of(48, 60, 72, 12);
        one.mask(1);
        one.mask(1);
        check.due("standing still is no parallel", one.chords(), 1);
        one.mask(2);
        check.due("all up by one", one.chords(), 0);
        EarSchool still = of(48, 55, 64, 0);
        still.mask(145);
        still.mask(145);
        check.due("most 0: nothing goes", still.chords(), 6);
        for (int most = 0; most <= 12; most++) {
            EarSchool y = of(48, 55, 64, most);
            y.mask(145);
            y.mask(2180);
            for (long k = 0; k < y.chords(); k++) {
                for (int v = 0; v < 3; v++) {
                    check.isTrue("at most " + most, Math.abs(y.chord(k, 1, v) - y.chord(k, 0, v)) <= most);
                }
            }
        }
        exactMost();
    }

    /** Below and between stand still, above goes down from 71 to 64. */
    private static void exactMost() {
        EarSchool x = of(48, 52, 64, 7);
        x.mask(0b100000010001);
        x.mask(0b10001);
        boolean seen = false;
        for (long k = 0; k < x.chords(); k++) {
            seen |= Arrays.equals(three(x, k, 0), new int[] {48, 52, 71})
                    && Arrays.equals(three(x, k, 1), new int[] {48, 52, 64});
        }
        check.isTrue("a step of just MOST may be", seen);
    }

    private static int[] three(EarSchool x, long k, int i) {
        return new int[] {x.chord(k, i, 0), x.chord(k, i, 1), x.chord(k, i, 2)};
    }

    private static boolean parallels(int[] from, int[] to) {
        boolean found = false;
        for (int v = 0; v < 3; v++) {
            for (int w = v + 1; w < 3; w++) {
                boolean same = (to[v] - from[v]) * (to[w] - from[w]) > 0;
                int before = (from[w] - from[v]) % 12;
                int after = (to[w] - to[v]) % 12;
                found |= same && before == after && (before == 0 || before == 7);
            }
        }
        return found;
    }

    private static void chord() {
        EarSchool x = new EarSchool();
        check.due("chord() without a mask", x.chord(0, 0, 0), BAD);
        x.mask(145);
        x.mask(545);
        check.due("chords()", x.chords(), 14);
        check.due("chord(-1, 0, 0)", x.chord(-1, 0, 0), BAD);
        check.due("chord(0, -1, 0)", x.chord(0, -1, 0), BAD);
        check.due("chord(0, 2, 0)", x.chord(0, 2, 0), BAD);
        check.due("chord(0, 0, -1)", x.chord(0, 0, -1), BAD);
        check.due("chord(0, 0, 3)", x.chord(0, 0, 3), BAD);
        check.due("BAD is ahead of NONE", x.chord(14, 2, 0), BAD);
        check.due("chord(14, 0, 0)", x.chord(14, 0, 0), NONE);
        check.due("chord(MAX, 0, 0)", x.chord(Long.MAX_VALUE, 0, 0), NONE);
        check.isTrue("chord 13 is there", x.chord(13, 1, 2) >= 64);
        int[] before = {0};
        for (long k = 0; k < 14; k++) {
            int[] now = Arrays.copyOf(three(x, k, 0), 6);
            System.arraycopy(three(x, k, 1), 0, now, 3, 3);
            check.isTrue("rising order at " + k, Arrays.compare(before, now) < 0);
            before = now;
        }
        x.note(1, 1);
        x.chord(0, 0, 0);
        check.due("the row stays", x.at(0, 0), 1);
    }
}
