import java.util.Arrays;

/** Promises 5 to 10: range, bits, bound, melodies, melody, place. */
public final class MelodyTest {
    private static final int BAD = EarSchool.BAD, NONE = EarSchool.NONE;
    private static final int ALL_STEPS = (1 << 25) - 1;
    private static final long MANY = 1000000000000000000L;
    private static final Check check = new Check();

    public static void main(String[] args) {
        range();
        bits();
        bound();
        scaleBeginEnd();
        steps();
        leap();
        repeats();
        onePitch();
        melody();
        place();
        moreThanCanBeTold();
        check.finish();
    }

    /** Every pitch and every step may stand. */
    private static EarSchool free(int low, int high, int n) {
        EarSchool x = new EarSchool();
        x.range(low, high, n);
        x.bits(0, 4095);
        x.bits(1, 4095);
        x.bits(2, 4095);
        x.bits(3, ALL_STEPS);
        x.bound(0, 13);
        x.bound(1, 15);
        return x;
    }

    private static void range() {
        EarSchool x = free(60, 60, 1);
        int[][] good = {{0, 0, 1}, {0, 36, 1}, {127, 127, 16}, {91, 127, 2}, {60, 96, 2}};
        for (int[] g : good) {
            check.due("range" + Arrays.toString(g), x.range(g[0], g[1], g[2]), 1);
            check.due("count(5) behind range" + Arrays.toString(g), x.count(5), g[2]);
        }
        check.due("melodies of two pitches", x.melodies(), 37 * 25 - 2 * (12 * 13 / 2));
        int[][] bad = {{-1, 5, 3}, {60, 59, 3}, {60, 97, 3}, {100, 128, 3}, {128, 128, 3}, {60, 72, 0}, {60, 72, 17},
            {Integer.MIN_VALUE, Integer.MAX_VALUE, 3}, {Integer.MAX_VALUE, Integer.MIN_VALUE, 3},
            {60, Integer.MAX_VALUE, 3}, {60, 72, Integer.MIN_VALUE}};
        for (int[] b : bad) {
            check.due("range" + Arrays.toString(b), x.range(b[0], b[1], b[2]), BAD);
        }
        check.due("count(5) behind BAD", x.count(5), 2);
        check.due("melodies behind BAD", x.melodies(), 37 * 25 - 2 * (12 * 13 / 2));
    }

    private static void bits() {
        EarSchool x = new EarSchool();
        int[] first = {2741, 4095, 1, 261888};
        int[] most = {4095, 4095, 4095, ALL_STEPS};
        for (int way = 0; way < 4; way++) {
            check.due("bits first", x.bits(way, 0), first[way]);
            check.due("bits of 0", x.bits(way, most[way]), 0);
            check.due("bits of all", x.bits(way, 5), most[way]);
            check.due("bits above", x.bits(way, most[way] + 1), BAD);
            check.due("bits below", x.bits(way, -1), BAD);
            check.due("bits far out", x.bits(way, Integer.MIN_VALUE), BAD);
            check.due("bits behind BAD", x.bits(way, first[way]), 5);
        }
        check.due("bits(-1, 0)", x.bits(-1, 0), BAD);
        check.due("bits(4, 0)", x.bits(4, 0), BAD);
        check.due("melodies as at first", x.melodies(), 44689);
    }

    private static void bound() {
        EarSchool x = new EarSchool();
        check.due("bound(0, 1)", x.bound(0, 1), 5);
        check.due("bound(0, 13)", x.bound(0, 13), 1);
        check.due("bound(0, 0)", x.bound(0, 0), BAD);
        check.due("bound(0, 14)", x.bound(0, 14), BAD);
        check.due("bound(0, 5)", x.bound(0, 5), 13);
        check.due("bound(1, 0)", x.bound(1, 0), 1);
        check.due("bound(1, 15)", x.bound(1, 15), 0);
        check.due("bound(1, -1)", x.bound(1, -1), BAD);
        check.due("bound(1, 16)", x.bound(1, 16), BAD);
        check.due("bound(1, 1)", x.bound(1, 1), 15);
        check.due("bound(-1, 1)", x.bound(-1, 1), BAD);
        check.due("bound(2, 1)", x.bound(2, 1), BAD);
        check.due("melodies as at first", x.melodies(), 44689);
    }

    private static void scaleBeginEnd() {
        EarSchool x = free(60, 62, 3);
        check.due("all of three", x.melodies(), 27);
        x.bits(0, 0b101);
        check.due("scale of two", x.melodies(), 8);
        x.bits(1, 0b010);
        check.due("begin out of the scale", x.melodies(), 0);
        x.bits(1, 0b011);
        check.due("begin with one of the scale", x.melodies(), 4);
        x.bits(2, 0b110);
        check.due("end with one of the scale", x.melodies(), 2);
        x.melody(0);
        check.isTrue("60 60 62", Arrays.equals(Rows.read(x, 0), new int[] {60, 60, 62}));
        x.melody(1);
        check.isTrue("60 62 62", Arrays.equals(Rows.read(x, 0), new int[] {60, 62, 62}));
        x.range(71, 73, 1);
        x.bits(0, 4095);
        x.bits(1, 1 << 11);
        x.bits(2, 1 << 11);
        check.due("class 11", x.melodies(), 1);
        x.melody(0);
        check.due("pitch of class 11", x.at(0, 0), 71);
    }

    private static void steps() {
        for (int step = -12; step <= 12; step++) {
            EarSchool x = free(40, 76, 2);
            x.bits(3, 1 << (12 + step));
            check.due("melodies of one step " + step, x.melodies(), 37 - Math.abs(step));
            x.melody(0);
            check.due("the step", x.at(1, 0) - x.at(0, 0), step);
        }
        EarSchool x = free(40, 76, 2);
        x.bits(3, 0);
        check.due("no step", x.melodies(), 0);
    }

    private static void leap() {
        EarSchool x = free(60, 72, 3);
        x.bits(1, 1);
        x.bits(3, (1 << (12 + 4)) | (1 << (12 + 5)) | (1 << 12) | (1 << 11) | (1 << 10) | (1 << 9));
        x.bound(0, 5);
        // 60, then 64 (no leap): 4, 5, 0, -1, -2, -3; 65 (a leap): -1, -2; 60: 4, 5, 0; 72 begins too: 0 0, 0 -1,
        // 0 -2, 0 -3, and -1, -2, -3 with 0, -1, -2, -3 each
        check.due("leaps go back by 1 or 2", x.melodies(), 6 + 2 + 3 + 4 + 12);
        x.bound(0, 4);
        check.due("4 is a leap too", x.melodies(), 2 + 2 + 3 + 4 + 12);
        x.bound(0, 13);
        check.due("no leaps", x.melodies(), 6 + 6 + 3 + 4 + 12);
        EarSchool down = free(60, 72, 3);
        down.bits(1, 1);
        down.bits(2, 4095);
        down.bits(3, (1 << 0) | (1 << 12) | (1 << 13) | (1 << 14) | (1 << 15));
        down.bound(0, 12);
        // 72 60 61, 72 60 62; 72 72 and then 0, -12; 60 and then two of 0, 1, 2, 3
        check.due("leaps down go up by 1 or 2", down.melodies(), 2 + 2 + 16);
        EarSchool last = free(60, 72, 2);
        last.bound(0, 1);
        check.due("a leap may be the last step", last.melodies(), 169);
        EarSchool zigzag = free(60, 62, 4);
        zigzag.bound(0, 1);
        zigzag.bound(1, 0);
        // each step is a leap and turns: up down up, or down up down
        check.due("every step turns", zigzag.melodies(), 16);
    }

    private static void repeats() {
        for (int r = 0; r < 5; r++) {
            EarSchool x = free(60, 61, 5);
            x.bits(1, 1);
            x.bits(2, 1);
            x.bits(3, (1 << 11) | (1 << 12) | (1 << 13));
            x.bound(1, r);
            check.due("repeats " + r, x.melodies(), repeated(r));
        }
        EarSchool one = free(60, 60, 16);
        one.bound(1, 14);
        check.due("15 repeats where 14 may be", one.melodies(), 0);
        one.bound(1, 15);
        check.due("15 repeats where 15 may be", one.melodies(), 1);
    }

    /** Rows of five of two pitches, first and last the lower one, no more than r repeats in a run. */
    private static int repeated(int r) {
        int found = 0;
        for (int code = 0; code < 8; code++) {
            int[] row = {0, code & 1, code >> 1 & 1, code >> 2 & 1, 0};
            int run = 0;
            int longest = 0;
            for (int i = 1; i < 5; i++) {
                run = row[i] == row[i - 1] ? run + 1 : 0;
                longest = Math.max(longest, run);
            }
            found += longest <= r ? 1 : 0;
        }
        return found;
    }

    private static void onePitch() {
        EarSchool x = new EarSchool();
        x.range(60, 72, 1);
        check.due("one pitch", x.melodies(), 2);
        check.due("melody(1)", x.melody(1), 1);
        check.due("its pitch", x.at(0, 0), 72);
        check.due("its count", x.count(0), 1);
        check.due("place()", x.place(), 1);
        x.bits(1, 2);
        check.due("begin and end apart", x.melodies(), 0);
    }

    private static void melody() {
        EarSchool x = new EarSchool();
        x.note(1, 1);
        check.due("melody(-1)", x.melody(-1), BAD);
        check.due("melody(MIN)", x.melody(Long.MIN_VALUE), BAD);
        check.due("melody(44689)", x.melody(44689), NONE);
        check.due("melody(MANY)", x.melody(MANY), NONE);
        check.due("melody(MAX)", x.melody(Long.MAX_VALUE), NONE);
        check.due("the row stays", x.at(0, 0), 1);
        check.due("the row's count stays", x.count(0), 1);
        check.due("melody(44688)", x.melody(44688), 1);
        check.due("n notes", x.count(0), 8);
        for (int length : Rows.read(x, 1)) {
            check.due("its length", length, 24);
        }
        int[] before = {0};
        for (int k = 0; k < 44689; k += 7) {
            check.due("melody", x.melody(k), 1);
            check.due("place of melody " + k, x.place(), k);
            int[] now = Rows.read(x, 0);
            check.isTrue("rising order at " + k, Arrays.compare(before, now) < 0);
            before = now;
        }
    }

    private static void place() {
        EarSchool x = free(60, 62, 3);
        x.bound(1, 0);
        // 60 61 60, 60 61 62, 60 62 60, 60 62 61, 61 60 61, ..
        check.due("place() of no row", x.place(), -1);
        Rows.write(x, 5, 60, 61);
        check.due("place() of too few", x.place(), -1);
        Rows.write(x, 5, 60, 61, 60, 61);
        check.due("place() of too many", x.place(), -1);
        int[][] rows = {{0, 0, 0}, {60, 60, 127}, {60, 61, 60}, {60, 61, 61}, {60, 61, 63}, {60, 62, 61}, {60, 127, 0},
            {61, 0, 0}, {62, 127, 127}, {127, 0, 0}};
        int[] due = {0, 0, 0, 1, 2, 3, 4, 4, 12, 12};
        for (int i = 0; i < rows.length; i++) {
            Rows.write(x, 7, rows[i]);
            check.due("place() of " + Arrays.toString(rows[i]), x.place(), due[i]);
        }
        check.due("the row stays behind place()", x.at(0, 0), 127);
    }

    private static void moreThanCanBeTold() {
        EarSchool x = free(48, 84, 16);
        check.due("melodies()", x.melodies(), MANY);
        check.due("melody(MANY)", x.melody(MANY), NONE);
        check.due("melody(MANY - 1)", x.melody(MANY - 1), 1);
        check.due("place()", x.place(), MANY - 1);
        x.melody(0);
        check.due("place() of the first", x.place(), 0);
        x.drop();
        for (int i = 0; i < 16; i++) {
            x.note(84, 1);
        }
        check.due("place() of the last", x.place(), MANY);
        x.range(48, 84, 11);
        long many = x.melodies();
        check.isTrue("fewer than MANY", many < MANY);
        check.due("melody(the last)", x.melody(many - 1), 1);
        check.isTrue("all 84", Arrays.stream(Rows.read(x, 0)).allMatch(pitch -> pitch == 84));
        check.due("melody(behind the last)", x.melody(many), NONE);
    }
}
