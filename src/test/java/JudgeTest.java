import java.util.Arrays;

/** Promises 20 to 22: meant, judge, act. */
public final class JudgeTest {
    private static final int BAD = EarSchool.BAD, NONE = EarSchool.NONE, NOT = EarSchool.NOT;
    private static final Check check = new Check();

    public static void main(String[] args) {
        meant();
        costs();
        again();
        shifts();
        leastNumbers();
        longest();
        act();
        standsUntilChanged();
        check.finish();
    }

    private static void judged(String what, int[] meant, int[] answer, int cost, int... numbers) {
        EarSchool x = new EarSchool();
        check.due(what + ": cost", Rows.judge(x, meant, answer), cost);
        check.due(what + ": count(2)", x.count(2), numbers.length);
        int[] got = Rows.acts(x, 0);
        check.isTrue(what + ": acts " + Arrays.toString(got), Arrays.equals(got, numbers));
        check.due(what + ": sum of costs", Arrays.stream(Rows.acts(x, 3)).sum(), cost);
    }

    private static int[] row(int... pitches) {
        return pitches;
    }

    private static void meant() {
        EarSchool x = new EarSchool();
        check.due("meant() of none", x.meant(), 0);
        Rows.write(x, 24, 60, 62, 64);
        check.due("meant()", x.meant(), 3);
        check.due("count(1)", x.count(1), 3);
        check.due("the row stays", x.count(0), 3);
        x.drop();
        check.due("count(1) behind drop()", x.count(1), 3);
        check.due("three are lost", x.judge(), 9);
        check.due("meant() of an empty row", x.meant(), 0);
        check.due("nothing meant, nothing answered", x.judge(), 0);
    }

    private static void costs() {
        judged("nothing", row(), row(), 0);
        judged("all right", row(60, 62), row(60, 62), 0, 0, 0);
        judged("wrong pitch", row(60, 62), row(60, 63), 2, 0, 0);
        judged("lost", row(60, 62, 64), row(60, 64), 3, 0, 1, 0);
        judged("more", row(60, 64), row(60, 62, 64), 3, 0, 2, 0);
        judged("all lost", row(60, 62), row(), 6, 1, 1);
        judged("all more", row(), row(60, 62), 6, 2, 2);
        EarSchool x = new EarSchool();
        x.note(60, 24);
        x.meant();
        x.drop();
        x.note(60, 12);
        check.due("wrong length", x.judge(), 1);
        check.due("wrong length: act", x.act(0, 3), 1);
        x.drop();
        x.note(61, 12);
        check.due("both wrong", x.judge(), 3);
        check.due("both wrong: a hit", x.act(0, 0), 0);
        check.due("both wrong: act", x.act(0, 3), 3);
    }

    private static void again() {
        judged("doubled", row(60, 62), row(60, 60, 62), 1, 0, 2, 0);
        judged("doubled twice", row(60, 62), row(60, 60, 60, 62), 2, 0, 2, 2, 0);
        judged("the first is never doubled", row(), row(60, 60), 4, 2, 2);
        EarSchool x = new EarSchool();
        x.note(60, 24);
        x.meant();
        x.note(60, 23);
        check.due("another length is not doubled", x.judge(), 3);
    }

    private static void shifts() {
        judged("from the first on", row(60, 62, 64), row(62, 64, 66), 3, 17, 0, 0, 0);
        judged("from the second on", row(60, 62, 64), row(60, 61, 63), 3, 0, 14, 0, 0);
        judged("12 up", row(60, 62), row(72, 74), 3, 27, 0, 0);
        judged("12 down", row(60, 62), row(48, 50), 3, 3, 0, 0);
        judged("13 up is too far", row(60, 62), row(73, 75), 4, 0, 0);
        judged("there and back", row(60, 60, 60, 60), row(60, 65, 65, 60), 4, 0, 0, 0, 0);
        judged("twice", row(60, 62, 60, 62, 60, 62), row(61, 63, 59, 61, 59, 61), 6, 16, 0, 0, 14, 0, 0, 0, 0);
        judged("12 up, then 1", row(60, 62, 64, 60, 62, 64), row(72, 74, 76, 61, 63, 65), 6, 27, 0, 0, 0, 16, 0, 0, 0);
        judged("12 down, then 0", row(60, 62, 64, 65, 60), row(48, 50, 52, 53, 60), 5, 3, 0, 0, 0, 0, 0);
        judged("12 down, then -1", row(60, 62, 64, 60, 62, 64), row(48, 50, 52, 59, 61, 63), 6, 3, 0, 0, 0, 14, 0, 0, 0);
        judged("a wrong one, then shifted", row(60, 62, 60, 62, 60), row(65, 57, 55, 57, 55), 5, 0, 10, 0, 0, 0, 0);
        // where meant is at its end, no shift helps: 60 is wrong, the rest is more
        judged("meant at its end", row(60), row(61, 61, 62), 2 + 1 + 3, 0, 2, 2);
        judged("one note: wrong is less", row(60), row(65), 2, 0);
    }

    private static void leastNumbers() {
        // Either of the two may be lost: a hit first is the least.
        judged("which is lost", row(60, 60), row(60), 3, 0, 1);
        // A hit of a wrong pitch and a lost one, or a lost one and a hit.
        judged("lost ahead", row(60, 62), row(62), 3, 1, 0);
        // Wrong both, 6 lost and more: hits are less. A shift and a hit cost 3, more than one wrong hit.
        judged("wrong both", row(60, 60), row(61, 70), 4, 0, 0);
    }

    private static void longest() {
        int[] up = new int[24];
        int[] far = new int[24];
        for (int i = 0; i < 24; i++) {
            up[i] = 40 + i;
            far[i] = 100;
        }
        EarSchool x = new EarSchool();
        check.due("24 all right", Rows.judge(x, up, up), 0);
        check.due("24 hits", x.count(2), 24);
        check.due("24 wrong", Rows.judge(x, up, far), 48);
        check.due("24 hits", x.count(2), 24);
        check.due("24 lost", Rows.judge(x, up, new int[0]), 72);
        check.due("24 doubled", Rows.judge(x, new int[0], far), 3 + 23);
        check.due("24 more", Rows.judge(x, new int[0], up), 72);
    }

    private static void act() {
        EarSchool x = new EarSchool();
        check.due("act(0, 0) ahead", x.act(0, 0), NOT);
        check.due("act(-1, 0) ahead", x.act(-1, 0), NOT);
        check.due("act(0, -1) ahead", x.act(0, -1), BAD);
        check.due("act(0, 4) ahead", x.act(0, 4), BAD);
        Rows.judge(x, row(60, 62, 64, 65), row(60, 60, 64, 63));
        // 62 and 65 are wrong: four hits
        check.due("act(3, 1)", x.act(3, 1), 3);
        check.due("act(3, 2)", x.act(3, 2), 3);
        check.due("act(3, 3)", x.act(3, 3), 2);
        check.due("act(4, 0)", x.act(4, 0), BAD);
        check.due("act(-1, 0)", x.act(-1, 0), BAD);
        check.due("act(MAX, 0)", x.act(Integer.MAX_VALUE, 0), BAD);
        check.due("act(0, 4)", x.act(0, 4), BAD);
        check.due("act(0, -1)", x.act(0, -1), BAD);
        // 62 is wrong, then all is shifted by one
        Rows.judge(x, row(60, 62, 64, 66), row(60, 60, 65, 67));
        int[][] due = {{0, 0, 16, 0, 0}, {0, 1, NONE, 2, 3}, {0, 1, NONE, 2, 3}, {0, 2, 3, 0, 0}};
        for (int what = 0; what < 4; what++) {
            check.isTrue("acts shifted, what " + what, Arrays.equals(Rows.acts(x, what), due[what]));
        }
        // 62 is wrong, which then was doubled
        Rows.judge(x, row(60, 62, 64), row(60, 60, 60, 64));
        int[][] slips = {{0, 0, 2, 0}, {0, 1, NONE, 2}, {0, 1, 2, 3}, {0, 2, 1, 0}};
        for (int what = 0; what < 4; what++) {
            check.isTrue("acts doubled, what " + what, Arrays.equals(Rows.acts(x, what), slips[what]));
        }
        Rows.judge(x, row(60, 62, 64), row(60, 64));
        int[][] lost = {{0, 1, 0}, {0, 1, 2}, {0, NONE, 1}, {0, 3, 0}};
        for (int what = 0; what < 4; what++) {
            check.isTrue("acts lost, what " + what, Arrays.equals(Rows.acts(x, what), lost[what]));
        }
    }

    private static void standsUntilChanged() {
        EarSchool x = new EarSchool();
        int[] changes = {0, 1, 2, 3, 4, 5};
        for (int change : changes) {
            x.drop();
            x.judge();
            check.due("judged ahead of change " + change, x.count(2) >= 0 ? 1 : 0, 1);
            change(x, change);
            check.due("count(2) behind change " + change, x.count(2), NONE);
            check.due("act(0, 0) behind change " + change, x.act(0, 0), NOT);
            check.due("learn(0) behind change " + change, x.learn(0), NOT);
        }
        Rows.judge(x, row(60, 62), row(60, 63));
        refuseAll(x);
        check.due("refused calls change nothing", x.count(2), 2);
        check.due("judge() again", x.judge(), 2);
        check.due("learn() leaves it judged", x.learn(0) + x.count(2), 3);
    }

    private static void change(EarSchool x, int change) {
        switch (change) {
            case 0:
                x.note(60, 24);
                break;
            case 1:
                x.drop();
                break;
            case 2:
                x.meant();
                break;
            case 3:
                x.melody(0);
                break;
            case 4:
                x.some(48, true);
                x.rhythm(0);
                break;
            default:
                x.drill(0);
                break;
        }
    }

    private static void refuseAll(EarSchool x) {
        x.note(128, 1);
        x.melody(-1);
        x.melody(Long.MAX_VALUE);
        x.rhythm(-1);
        x.rhythm(Long.MAX_VALUE);
        x.drill(6);
        x.bits(3, 0);
        x.drill(0);
        x.act(0, 9);
        x.learn(9);
    }
}
