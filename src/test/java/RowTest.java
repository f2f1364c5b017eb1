/** Promises 1 to 4 and 26: a new object, note, drop, at, count. */
public final class RowTest {
    private static final int BAD = EarSchool.BAD, FULL = EarSchool.FULL, NONE = EarSchool.NONE, NOT = EarSchool.NOT;
    private static final Check check = new Check();

    public static void main(String[] args) {
        newObject();
        note();
        drop();
        at();
        count();
        check.finish();
    }

    private static void newObject() {
        EarSchool x = new EarSchool();
        int[] counts = {0, 0, NONE, 0, 0, 8};
        for (int what = 0; what < counts.length; what++) {
            check.due("new count(" + what + ")", x.count(what), counts[what]);
        }
        for (int pupil = 0; pupil < 6; pupil++) {
            for (int size = 0; size <= 12; size++) {
                check.due("new table asked", x.table(pupil, size, 0), 0);
                check.due("new table missed", x.table(pupil, size, 1), 0);
                check.due("new table weight", x.table(pupil, size, 2), 6);
            }
        }
        check.due("new act(0, 0)", x.act(0, 0), NOT);
        check.due("new drop()", x.drop(), 0);
        check.due("new clear()", x.clear(), 0);
        check.due("new meant()", x.meant(), 0);
        EarSchool other = new EarSchool();
        x.note(1, 1);
        x.mask(1);
        check.due("another object's row", other.count(0), 0);
        check.due("another object's masks", other.count(3), 0);
    }

    private static void note() {
        EarSchool x = new EarSchool();
        check.due("note(0, 1)", x.note(0, 1), 1);
        check.due("note(127, 96)", x.note(127, 96), 2);
        int[][] bad = {{-1, 1}, {128, 1}, {0, 0}, {0, 97}, {Integer.MIN_VALUE, 5}, {Integer.MAX_VALUE, 5},
            {5, Integer.MIN_VALUE}, {5, Integer.MAX_VALUE}};
        for (int[] b : bad) {
            check.due("note(" + b[0] + ", " + b[1] + ")", x.note(b[0], b[1]), BAD);
        }
        for (int i = 3; i <= 24; i++) {
            check.due("note " + i, x.note(i, i), i);
        }
        check.due("note 25", x.note(60, 24), FULL);
        check.due("bad note 25", x.note(128, 24), BAD);
        check.due("count(0) behind FULL", x.count(0), 24);
        check.due("at(23, 0) behind FULL", x.at(23, 0), 24);
    }

    private static void drop() {
        EarSchool x = new EarSchool();
        check.due("drop() of none", x.drop(), 0);
        x.note(60, 24);
        x.note(61, 25);
        check.due("drop() of two", x.drop(), 2);
        check.due("count(0) behind drop()", x.count(0), 0);
        check.due("at(0, 0) behind drop()", x.at(0, 0), BAD);
        check.due("note behind drop()", x.note(1, 2), 1);
    }

    private static void at() {
        EarSchool x = new EarSchool();
        check.due("at(0, 0) of none", x.at(0, 0), BAD);
        x.note(60, 24);
        x.note(61, 25);
        check.due("at(0, 0)", x.at(0, 0), 60);
        check.due("at(0, 1)", x.at(0, 1), 24);
        check.due("at(1, 0)", x.at(1, 0), 61);
        check.due("at(1, 1)", x.at(1, 1), 25);
        int[][] bad = {{-1, 0}, {2, 0}, {0, -1}, {0, 2}, {24, 0}, {Integer.MAX_VALUE, 1}, {Integer.MIN_VALUE, 1}};
        for (int[] b : bad) {
            check.due("at(" + b[0] + ", " + b[1] + ")", x.at(b[0], b[1]), BAD);
        }
    }

    private static void count() {
        EarSchool x = new EarSchool();
        x.note(60, 24);
        x.note(62, 24);
        x.meant();
        x.note(64, 24);
        x.mask(1);
        x.mask(1);
        x.mask(1);
        x.mask(1);
        x.some(5, true);
        x.some(6, true);
        x.some(7, true);
        x.some(8, true);
        x.some(9, true);
        x.range(0, 10, 16);
        check.due("count(2) ahead of judge()", x.count(2), NONE);
        x.judge();
        int[] counts = {3, 2, 3, 4, 5, 16};
        for (int what = 0; what < counts.length; what++) {
            check.due("count(" + what + ")", x.count(what), counts[what]);
        }
        check.due("count(-1)", x.count(-1), BAD);
        check.due("count(6)", x.count(6), BAD);
        check.due("count(MAX)", x.count(Integer.MAX_VALUE), BAD);
    }
}
