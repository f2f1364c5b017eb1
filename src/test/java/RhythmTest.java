import java.util.Arrays;

/** Promises 11 to 14: bars, some, rhythms, rhythm. */
public final class RhythmTest {
    private static final int BAD = EarSchool.BAD, NONE = EarSchool.NONE, FULL = EarSchool.FULL;
    private static final Check check = new Check();

    public static void main(String[] args) {
        bars();
        some();
        rhythms();
        rhythm();
        check.finish();
    }

    private static EarSchool of(int many, int beat, int... lengths) {
        EarSchool x = new EarSchool();
        x.bars(many, beat);
        for (int length : lengths) {
            x.some(length, true);
        }
        return x;
    }

    private static void bars() {
        EarSchool x = new EarSchool();
        x.some(48, true);
        check.due("one rhythm of two bars", x.rhythms(), 1);
        check.due("its notes", x.rhythm(0), 2);
        int[][] bad = {{0, 1}, {7, 1}, {1, 0}, {1, 97}, {-1, -1}, {Integer.MIN_VALUE, 4}, {4, Integer.MAX_VALUE}};
        for (int[] b : bad) {
            check.due("bars" + Arrays.toString(b), x.bars(b[0], b[1]), BAD);
        }
        check.due("notes behind BAD", x.rhythm(0), 2);
        check.due("bars(6, 96)", x.bars(6, 96), 1);
        check.due("six bars of two", x.rhythm(0), 12);
        check.due("bars(1, 1)", x.bars(1, 1), 1);
        check.due("too long for a bar", x.rhythms(), 0);
    }

    private static void some() {
        EarSchool x = new EarSchool();
        check.due("some(1, on)", x.some(1, true), 0);
        check.due("some(1, on) again", x.some(1, true), 1);
        check.due("some(96, off)", x.some(96, false), 0);
        check.due("some(96, on)", x.some(96, true), 0);
        int[] bad = {0, 97, -1, Integer.MIN_VALUE, Integer.MAX_VALUE};
        for (int b : bad) {
            check.due("some(" + b + ", on)", x.some(b, true), BAD);
            check.due("some(" + b + ", off)", x.some(b, false), BAD);
        }
        for (int length = 2; length <= 5; length++) {
            x.some(length, true);
        }
        check.due("six of some", x.count(4), 6);
        check.due("a seventh", x.some(6, true), FULL);
        check.due("a bad seventh", x.some(97, true), BAD);
        check.due("one of the six again", x.some(5, true), 1);
        check.due("a seventh off", x.some(6, false), 0);
        check.due("one of the six off", x.some(3, false), 1);
        check.due("five of some", x.count(4), 5);
        check.due("off again", x.some(3, false), 0);
        check.due("a sixth", x.some(6, true), 0);
    }

    private static void rhythms() {
        check.due("none of some", of(2, 48).rhythms(), 0);
        check.due("1 and 2 in 5", of(1, 5, 1, 2).rhythms(), 8);
        check.due("1 and 2 in two bars of 5", of(2, 5, 1, 2).rhythms(), 64);
        check.due("2 over the bar's end", of(2, 3, 2).rhythms(), 0);
        check.due("2 over the bar's end, 1 too", of(2, 3, 1, 2).rhythms(), 9);
        check.due("24 of 1", of(1, 24, 1).rhythms(), 1);
        check.due("25 of 1", of(1, 25, 1).rhythms(), 0);
        check.due("25 of 1 in bars of 5", of(5, 5, 1).rhythms(), 0);
        check.due("24 of 1 in bars of 4", of(6, 4, 1).rhythms(), 1);
        check.due("25 with 24 at most", of(1, 25, 1, 2).rhythms(), 121393 - 1);
        check.due("in any order of telling", of(1, 5, 2, 1).rhythms(), 8);
        check.due("longer than the bar", of(1, 5, 6, 5).rhythms(), 1);
    }

    private static void rhythm() {
        EarSchool x = of(2, 3, 3, 1, 2);
        x.note(1, 1);
        check.due("rhythm(-1)", x.rhythm(-1), BAD);
        check.due("rhythm(16)", x.rhythm(16), NONE);
        check.due("rhythm(MANY)", x.rhythm(1000000000000000000L), NONE);
        check.due("rhythm(MAX)", x.rhythm(Long.MAX_VALUE), NONE);
        check.due("the row stays", x.at(0, 0), 1);
        int[][] due = {{1, 1, 1, 1, 1, 1}, {1, 1, 1, 1, 2}, {1, 1, 1, 2, 1}, {1, 1, 1, 3}, {1, 2, 1, 1, 1}};
        for (int k = 0; k < due.length; k++) {
            check.due("notes of " + k, x.rhythm(k), due[k].length);
            check.isTrue("rhythm " + k, Arrays.equals(Rows.read(x, 1), due[k]));
            check.isTrue("pitches of " + k, Arrays.stream(Rows.read(x, 0)).allMatch(pitch -> pitch == 60));
        }
        check.due("rhythm(15)", x.rhythm(15), 2);
        check.isTrue("the last one", Arrays.equals(Rows.read(x, 1), new int[] {3, 3}));
        x.some(3, false);
        check.due("rhythm(8) without 3", x.rhythm(8), 4);
        check.isTrue("2 1 2 1", Arrays.equals(Rows.read(x, 1), new int[] {2, 1, 2, 1}));
        manyRhythms();
    }

    private static void manyRhythms() {
        EarSchool x = of(1, 84, 6, 5, 4, 3, 2, 1);
        long many = x.rhythms();
        check.isTrue("very many", many > 100000000000000000L);
        check.due("the last of very many", x.rhythm(many - 1), 14);
        check.due("behind the last", x.rhythm(many), NONE);
        int[] before = {0};
        for (long k = 0; k < many; k += many / 97) {
            x.rhythm(k);
            int[] now = Rows.read(x, 1);
            check.due("sum of " + k, Arrays.stream(now).sum(), 84);
            check.isTrue("rising order at " + k, Arrays.compare(before, now) < 0);
            before = now;
        }
    }
}
