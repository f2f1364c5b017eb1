/** What several tests do with THE ROW. */
final class Rows {
    private Rows() {
    }

    /** THE ROW becomes these pitches, each of the same length. */
    static void write(EarSchool school, int length, int... pitches) {
        school.drop();
        for (int pitch : pitches) {
            school.note(pitch, length);
        }
    }

    static int[] read(EarSchool school, int what) {
        int[] row = new int[school.count(0)];
        for (int i = 0; i < row.length; i++) {
            row[i] = school.at(i, what);
        }
        return row;
    }

    /** Meant and answer as given, each note of length 24, judged: the cost. */
    static int judge(EarSchool school, int[] meant, int[] answer) {
        write(school, 24, meant);
        school.meant();
        write(school, 24, answer);
        return school.judge();
    }

    static int[] acts(EarSchool school, int what) {
        int[] acts = new int[Math.max(0, school.count(2))];
        for (int i = 0; i < acts.length; i++) {
            acts[i] = school.act(i, what);
        }
        return acts;
    }
}
