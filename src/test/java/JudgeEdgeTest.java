import java.util.Arrays;

/** The boundary cases of promises 20 to 22: meant, judge, act. */
public final class JudgeEdgeTest {
    private static final int BAD = EarSchool.BAD, NONE = EarSchool.NONE, NOT = EarSchool.NOT;
    private static final Check check = new Check();

    public static void main(String[] args) {
        meantOfNoneAndAll();
        meantIsACopy();
        emptyRows();
        costOfHit();
        costOfAgain();
        shiftOfTwelve();
        shiftBack();
        shiftFromZeroTo127();
        shiftNotAtTheEnd();
        shiftNotWorthIt();
        leastNumberFirst();
        longestRows();
        actWhat();
        actIndex();
        actNotes();
        actRefusals();
        check.finish();
    }

    private static Run promise(int number, String words) {
        return new Run(check, number, words);
    }

    private static int[] row(int... pitches) {
        return pitches;
    }

    private static void judged(Run x, int[] meant, int[] answer, int cost, int... numbers) {
        x.mean(24, meant);
        x.write(24, answer);
        x.due(cost, "judge");
        x.actsAre(0, numbers);
    }

    /** The same of notes, each a pitch and a length. */
    private static void judged(Run x, int[][] meant, int[][] answer, int cost, int... numbers) {
        write(x, meant);
        x.ask("meant");
        write(x, answer);
        x.due(cost, "judge");
        x.actsAre(0, numbers);
    }

    private static void write(Run x, int[][] notes) {
        x.ask("drop");
        for (int[] note : notes) {
            x.ask("note", note[0], note[1]);
        }
    }

    private static int[] rising(int from, int many) {
        int[] pitches = new int[many];
        for (int i = 0; i < many; i++) {
            pitches[i] = from + i;
        }
        return pitches;
    }

    private static int[] same(int pitch, int many) {
        int[] pitches = new int[many];
        Arrays.fill(pitches, pitch);
        return pitches;
    }

    private static void meantOfNoneAndAll() {
        Run x = promise(20, "THE ROW is MEANT: how many NOTES. (THE ROW stays.)");
        x.due(0, "meant");
        x.due(0, "count", 1);
        x.ask("note", 60, 24);
        x.due(1, "meant");
        x.rowIs(0, 60);
        for (int i = 2; i <= 24; i++) {
            x.ask("note", 60, 24);
        }
        x.due(24, "meant");
        x.due(24, "count", 1);
        x.due(24, "count", 0);
        x.ask("drop");
        x.due(24, "count", 1);
        x.due(0, "meant");
        x.due(0, "count", 1);
    }

    private static void meantIsACopy() {
        Run x = promise(20, "THE ROW is MEANT");
        x.mean(24, 60, 62);
        x.write(24, 1, 2, 3);
        x.due(2, "count", 1);
        x.write(24, 60, 62);
        x.due(0, "judge");
    }

    private static void emptyRows() {
        Run x = promise(21, "MEANT is a row of NOTES (empty at first). All of both are gone through.");
        x.due(0, "judge");
        x.actsAre(0);
        x.write(24, 60);
        x.due(3, "judge");
        x.actsAre(0, 2);
        x.ask("meant");
        x.ask("drop");
        x.due(3, "judge");
        x.actsAre(0, 1);
        x.ask("meant");
        x.due(0, "judge");
        x.actsAre(0);
    }

    private static void costOfHit() {
        Run x = promise(21, "it costs 2, if the PITCH of the answer is not that of MEANT and c more, and 1, "
                + "if LENGTHS are unlike (both: 3)");
        int[][] answers = {{60, 24, 0}, {60, 23, 1}, {60, 25, 1}, {59, 24, 2}, {61, 24, 2}, {59, 23, 3}, {61, 25, 3}};
        for (int[] answer : answers) {
            x.mean(24, 60);
            x.write(answer[1], answer[0]);
            x.due(answer[2], "judge");
            x.actsAre(0, 0);
            x.actsAre(3, answer[2]);
        }
    }

    private static void costOfAgain() {
        Run x = promise(21, "2 MORE: the next of the answer: 3; 1, if it is (PITCH, LENGTH) the one ahead of it "
                + "in the answer again");
        int[][] seconds = {{60, 24, 1}, {59, 24, 3}, {61, 24, 3}, {60, 23, 3}, {60, 25, 3}};
        for (int[] second : seconds) {
            x.mean(24, 60);
            x.write(24, 60);
            x.ask("note", second[0], second[1]);
            x.due(second[2], "judge");
            x.actsAre(0, 0, 2);
            x.actsAre(3, 0, second[2]);
        }
        // None is ahead of the first, and what is meant is not the answer.
        judged(x, row(), row(60), 3, 2);
        judged(x, row(), row(60, 60), 4, 2, 2);
        judged(x, row(), row(60, 61, 60), 9, 2, 2, 2);
    }

    private static void shiftOfTwelve() {
        Run x = promise(21, "15 + d: c becomes d (-12 .. 12, another one): 3");
        int[] meant = {60, 62, 64};
        for (int d : new int[] {-12, -11, -1, 1, 11, 12}) {
            judged(x, meant, row(60 + d, 62 + d, 64 + d), 3, 15 + d, 0, 0, 0);
            x.actsAre(3, 3, 0, 0, 0);
        }
        for (int d : new int[] {-13, 13}) {
            judged(x, meant, row(60 + d, 62 + d, 64 + d), 6, 0, 0, 0);
        }
        // At first c is 0: there is nothing to become.
        judged(x, meant, meant, 0, 0, 0, 0);
    }

    private static void shiftBack() {
        Run x = promise(21, "with a SHIFT c (0 at first): c becomes d, another one");
        // Four notes are higher by 1: there and back costs 6, four wrong ones 8.
        judged(x, row(60, 67, 62, 69, 64, 71), row(61, 68, 63, 70, 64, 71), 6, 16, 0, 0, 0, 0, 15, 0, 0);
        // Three wrong ones cost 6, too, and the first number of theirs is less.
        judged(x, row(60, 67, 62, 69, 64, 71), row(61, 68, 63, 69, 64, 71), 6, 0, 0, 0, 0, 0, 0);
        // From 12 below to 12 above
        judged(x, row(60, 67, 62, 69, 64, 71), row(48, 55, 50, 81, 76, 83), 6, 3, 0, 0, 0, 27, 0, 0, 0);
    }

    private static void shiftFromZeroTo127() {
        Run x = promise(21, "the PITCH of the answer is not that of MEANT and c more (0 .. 127)");
        judged(x, row(12, 14, 12), row(0, 2, 0), 3, 3, 0, 0, 0);
        judged(x, row(115, 113, 115), row(127, 125, 127), 3, 27, 0, 0, 0);
        // Nothing goes around from 127 to 0.
        judged(x, row(127, 127), row(0, 0), 4, 0, 0);
        judged(x, row(0, 0), row(127, 127), 4, 0, 0);
    }

    private static void shiftNotAtTheEnd() {
        Run x = promise(21, "not right behind such an ACT, and not where MEANT is at its end");
        judged(x, row(60), row(61, 62, 63), 8, 0, 2, 2);
        judged(x, row(), row(61, 62, 63), 9, 2, 2, 2);
        judged(x, row(60, 62), row(61, 63, 64), 6, 16, 0, 0, 2);
        judged(x, row(60, 62, 64), row(61), 8, 0, 1, 1);
    }

    private static void shiftNotWorthIt() {
        Run x = promise(21, "THE ACTS are those that cost least together");
        // One wrong note costs 2, two cost 4, a shift 3.
        judged(x, row(60, 67), row(60, 68), 2, 0, 0);
        judged(x, row(60, 67, 62), row(60, 68, 63), 3, 0, 16, 0, 0);
        judged(x, row(60), row(61), 2, 0);
        judged(x, row(60, 67), row(61, 68), 3, 16, 0, 0);
    }

    private static void leastNumberFirst() {
        Run x = promise(21, "of several those of which the first is the least number, then the second, and so on");
        // 0 ahead of 1, and of 2
        judged(x, row(62, 62), row(62), 3, 0, 1);
        judged(x, row(61), row(65, 60), 5, 0, 2);
        // 1 ahead of 2
        judged(x, new int[][] {{62, 24}, {62, 12}, {61, 24}}, new int[][] {{61, 12}, {61, 24}, {62, 12}},
                8, 1, 0, 0, 2);
        // 1 and 2 ahead of a shift
        judged(x, new int[][] {{62, 12}, {62, 24}, {62, 24}}, new int[][] {{60, 24}, {60, 12}}, 7, 1, 13, 0, 0);
        judged(x, new int[][] {{61, 12}, {60, 24}}, new int[][] {{62, 24}, {61, 24}, {61, 12}}, 7, 2, 0, 0);
    }

    private static void longestRows() {
        Run x = promise(21, "THE ROW has 24 NOTES at most");
        judged(x, rising(40, 24), rising(40, 24), 0, new int[24]);
        judged(x, rising(40, 24), row(), 72, same(1, 24));
        Run y = promise(21, "THE ROW has 24 NOTES at most");
        judged(y, row(), same(100, 24), 3 + 23, same(2, 24));
        judged(y, row(), rising(40, 24), 72, same(2, 24));
        Run z = promise(21, "THE ROW has 24 NOTES at most");
        judged(z, rising(40, 24), same(100, 24), 48, new int[24]);
        int[] shifted = new int[25];
        shifted[0] = 27;
        judged(z, rising(40, 24), rising(52, 24), 3, shifted);
        z.due(23, "act", 24, 1);
        z.due(23, "act", 24, 2);
        z.refused(BAD, "act", 25, 0);
    }

    private static void actWhat() {
        Run x = promise(22, "0 its number, 1 the NOTE of MEANT, 2 that of the answer, 3 what it costs. BAD");
        x.mean(24, 60);
        x.write(24, 61);
        x.ask("judge");
        x.refused(BAD, "act", 0, -1);
        x.due(0, "act", 0, 0);
        x.due(0, "act", 0, 1);
        x.due(0, "act", 0, 2);
        x.due(2, "act", 0, 3);
        x.refused(BAD, "act", 0, 4);
    }

    private static void actIndex() {
        Run x = promise(22, "Of ACT i .. BAD: there are not so many");
        x.ask("judge");
        x.refused(BAD, "act", -1, 0);
        x.refused(BAD, "act", 0, 0);
        x.mean(24, 60, 62, 64);
        x.write(24, 60, 64);
        x.ask("judge");
        x.refused(BAD, "act", -1, 0);
        x.due(0, "act", 0, 0);
        x.due(1, "act", 1, 0);
        x.due(0, "act", 2, 0);
        x.refused(BAD, "act", 3, 0);
        // More acts stood there once.
        x.mean(24, 60);
        x.ask("judge");
        x.due(0, "act", 0, 0);
        x.refused(BAD, "act", 1, 0);
    }

    private static void actNotes() {
        Run x = promise(22, "1 the NOTE of MEANT, 2 that of the answer (from 0; NONE where it has none)");
        // 62 is lost, from 65 on all is shifted by 1, and 70 for 69 is doubled
        judged(x, row(60, 62, 64, 70, 65, 69, 60, 72), row(60, 64, 70, 66, 70, 70, 61, 73), 7,
                0, 1, 0, 0, 16, 0, 0, 2, 0, 0);
        x.actsAre(1, 0, 1, 2, 3, NONE, 4, 5, NONE, 6, 7);
        x.actsAre(2, 0, NONE, 1, 2, NONE, 3, 4, 5, 6, 7);
        x.actsAre(3, 0, 3, 0, 0, 3, 0, 0, 1, 0, 0);
    }

    private static void actRefusals() {
        Run x = promise(22, "BAD (ahead for what); NOT; BAD: there are not so many.");
        x.refused(BAD, "act", 0, -1);
        x.refused(BAD, "act", 0, 4);
        x.refused(BAD, "act", -1, 4);
        x.refused(NOT, "act", 0, 0);
        x.refused(NOT, "act", 0, 3);
        x.refused(NOT, "act", 1000, 0);
        x.refused(NOT, "act", -1, 0);
        x.write(24, 60);
        x.ask("judge");
        x.refused(BAD, "act", 1, 4);
        x.refused(BAD, "act", 1, 3);
        x.due(3, "act", 0, 3);
        x.ask("drop");
        x.refused(NOT, "act", 0, 0);
        x.refused(BAD, "act", 0, 4);
    }
}
