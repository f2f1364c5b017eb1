import java.util.Arrays;

/** Promises 23 to 25: learn, table, drill. */
public final class PupilTest {
    private static final int BAD = EarSchool.BAD, NONE = EarSchool.NONE, NOT = EarSchool.NOT;
    private static final Check check = new Check();

    public static void main(String[] args) {
        learn();
        shiftedIsNotMissed();
        table();
        drill();
        drillOfTies();
        check.finish();
    }

    private static void learn() {
        EarSchool x = new EarSchool();
        check.due("learn(0) ahead", x.learn(0), NOT);
        check.due("learn(-1) ahead", x.learn(-1), BAD);
        check.due("learn(6) ahead", x.learn(6), BAD);
        // steps 1, 0, 13, 12: the first note is wrong, 61 right, 61 wrong, 74 lost, 62 of a wrong length
        Rows.write(x, 24, 60, 61, 61, 74, 62);
        x.meant();
        x.drop();
        x.note(50, 24);
        x.note(61, 24);
        x.note(90, 24);
        x.note(62, 12);
        check.due("judge()", x.judge(), 2 + 2 + 3 + 1);
        check.due("learn(5)", x.learn(5), 2);
        int[][] due = {{0, 1, 1}, {1, 1, 0}, {12, 2, 1}, {2, 0, 0}, {11, 0, 0}};
        for (int[] d : due) {
            check.due("asked " + d[0], x.table(5, d[0], 0), d[1]);
            check.due("missed " + d[0], x.table(5, d[0], 1), d[2]);
            check.due("asked of another pupil " + d[0], x.table(4, d[0], 0), 0);
        }
        check.due("learn(5) again", x.learn(5), 2);
        check.due("asked twice", x.table(5, 12, 0), 4);
        check.due("learn(6)", x.learn(6), BAD);
        Rows.judge(x, new int[] {60}, new int[] {70});
        check.due("one note has no step", x.learn(0), 0);
        Rows.judge(x, new int[0], new int[] {70, 71});
        check.due("nothing meant", x.learn(0), 0);
        for (int size = 0; size <= 12; size++) {
            check.due("nothing asked", x.table(0, size, 0), 0);
        }
    }

    private static void shiftedIsNotMissed() {
        EarSchool x = new EarSchool();
        check.due("judge()", Rows.judge(x, new int[] {60, 62, 64, 66}, new int[] {60, 65, 67, 69}), 3);
        check.due("shifted", x.learn(1), 0);
        check.due("asked", x.table(1, 2, 0), 3);
        check.due("doubled costs 1", Rows.judge(x, new int[] {60, 62}, new int[] {60, 60, 62}), 1);
        check.due("doubled", x.learn(1), 0);
        check.due("asked", x.table(1, 2, 0), 4);
    }

    private static void table() {
        EarSchool x = new EarSchool();
        int[][] bad = {{-1, 0, 0}, {6, 0, 0}, {0, -1, 0}, {0, 13, 0}, {0, 0, -1}, {0, 0, 3},
            {Integer.MAX_VALUE, 0, 0}, {0, Integer.MIN_VALUE, 0}, {0, 0, Integer.MAX_VALUE}};
        for (int[] b : bad) {
            check.due("table" + Arrays.toString(b), x.table(b[0], b[1], b[2]), BAD);
        }
        check.due("weight of not asked", x.table(3, 7, 2), 6);
        // size 2 asked three times, missed twice: 1 and 20 by 3
        check.due("judge()", Rows.judge(x, new int[] {60, 62, 64, 66}, new int[] {60, 62, 90, 40}), 4);
        check.due("learn(3)", x.learn(3), 2);
        check.due("asked", x.table(3, 2, 0), 3);
        check.due("missed", x.table(3, 2, 1), 2);
        check.due("weight", x.table(3, 2, 2), 7);
        Rows.judge(x, new int[] {60, 62, 64, 66}, new int[0]);
        x.learn(4);
        check.due("weight of all missed", x.table(4, 2, 2), 11);
        Rows.judge(x, new int[] {60, 62}, new int[] {60, 62});
        x.learn(2);
        check.due("weight of none missed", x.table(2, 2, 2), 1);
    }

    private static void drill() {
        EarSchool x = new EarSchool();
        check.due("drill(-1)", x.drill(-1), BAD);
        check.due("drill(6)", x.drill(6), BAD);
        check.due("nothing changes", x.count(0), 0);
        check.due("drill(0)", x.drill(0), 42);
        check.due("n notes", x.count(0), 8);
        check.isTrue("each of length 24", Arrays.stream(Rows.read(x, 1)).allMatch(length -> length == 24));
        check.due("the first melody, all weights alike", x.place(), 0);
        Rows.judge(x, new int[] {60, 61, 60}, new int[] {});
        x.learn(0);
        Rows.judge(x, new int[] {60, 60, 62, 64, 67, 71, 76}, new int[] {60, 60, 62, 64, 67, 71, 76});
        x.learn(0);
        x.range(60, 72, 3);
        // size 1 weighs 11; in C major: 60 .. 72, last of class 0: 72 71 72 alone goes by 1 twice
        check.due("drill(0) of half steps", x.drill(0), 22);
        check.isTrue("72 71 72", Arrays.equals(Rows.read(x, 0), new int[] {72, 71, 72}));
        check.due("drill(1) knows nothing of it", x.drill(1), 12);
        x.range(60, 72, 1);
        check.due("one pitch has no steps", x.drill(0), 0);
        check.due("the first of them", x.at(0, 0), 60);
        x.bits(2, 2);
        check.due("no melody", x.drill(0), NONE);
        check.due("the row stays", x.at(0, 0), 60);
        check.due("BAD is ahead", x.drill(7), BAD);
    }

    private static void drillOfTies() {
        EarSchool x = new EarSchool();
        x.range(60, 62, 3);
        x.bits(0, 4095);
        x.bits(2, 4095);
        Rows.judge(x, new int[] {60, 60}, new int[] {60, 60});
        x.learn(0);
        // a step of 0 weighs 1, 1 and 2 weigh 6: 60 61 60 is the first of weight 12
        check.due("drill(0)", x.drill(0), 12);
        check.isTrue("60 61 60", Arrays.equals(Rows.read(x, 0), new int[] {60, 61, 60}));
        x.bits(3, 1 << 12);
        x.bound(1, 2);
        check.due("only steps of 0", x.drill(0), 2);
    }
}
