import java.util.Random;

/** All promises: random runs of calls, each answer compared with that of the plain Model. */
public final class ModelTest {
    private static final int RUNS = 60, CALLS = 512;

    private final Check check;
    private final Random random;
    private final EarSchool school = new EarSchool();
    private final Model model = new Model();
    private final int seed;

    private ModelTest(Check check, int seed) {
        this.check = check;
        this.seed = seed;
        this.random = new Random(seed);
    }

    public static void main(String[] args) {
        Check check = new Check();
        for (int seed = 0; seed < RUNS && !check.anyWrong(); seed++) {
            ModelTest test = new ModelTest(check, seed);
            for (int call = 0; call < CALLS && !check.anyWrong(); call++) {
                test.anyCall();
            }
        }
        check.finish();
    }

    private void due(String call, long got, long want) {
        check.due("run " + seed + ": " + call, got, want);
    }

    /** Mostly from least - 1 to most + 1, seldom something far out. */
    private int about(int least, int most) {
        int kind = random.nextInt(60);
        if (kind == 0) {
            return random.nextInt();
        }
        if (kind == 1) {
            return random.nextBoolean() ? Integer.MIN_VALUE : Integer.MAX_VALUE;
        }
        if (kind < 5) {
            return random.nextBoolean() ? least - 1 : most + 1;
        }
        return least + random.nextInt(most - least + 1);
    }

    private long someNumber(long many) {
        int kind = random.nextInt(30);
        if (kind == 0) {
            return random.nextLong();
        }
        if (kind < 4) {
            return many - 1 + random.nextInt(3);
        }
        return many <= 0 ? 0 : random.nextInt((int) many);
    }

    private void anyCall() {
        switch (random.nextInt(7)) {
            case 0:
                rowCall();
                break;
            case 1:
                ruleCall();
                break;
            case 2:
                melodyCall();
                break;
            case 3:
                rhythmCall();
                break;
            case 4:
                chordCall();
                break;
            case 5:
                judgeCall();
                break;
            default:
                pupilCall();
                break;
        }
    }

    private void rowCall() {
        int kind = random.nextInt(30);
        if (kind == 0) {
            due("drop()", school.drop(), model.drop());
        } else if (kind < 15) {
            int pitch = random.nextInt(4) == 0 ? about(0, 127) : about(57, 63);
            int length = random.nextInt(4) == 0 ? about(1, 96) : 24;
            due("note(" + pitch + ", " + length + ")", school.note(pitch, length), model.note(pitch, length));
        } else {
            int i = about(0, Math.max(0, model.count(0) - 1));
            int what = about(0, 1);
            due("at(" + i + ", " + what + ")", school.at(i, what), model.at(i, what));
        }
    }

    private void ruleCall() {
        int kind = random.nextInt(10);
        if (kind < 3) {
            int low = about(0, 127);
            int high = about(low, low + (random.nextInt(4) == 0 ? 36 : 14));
            int n = about(1, random.nextInt(4) == 0 ? 16 : 5);
            due("range(" + low + ", " + high + ", " + n + ")", school.range(low, high, n), model.range(low, high, n));
        } else if (kind < 7) {
            int way = about(0, 3);
            int most = way == 3 ? (1 << 25) - 1 : 4095;
            int bits = random.nextInt(3) == 0 ? most : about(0, most);
            due("bits(" + way + ", " + bits + ")", school.bits(way, bits), model.bits(way, bits));
        } else {
            int way = about(0, 1);
            int v = way == 0 ? about(1, 13) : about(0, random.nextInt(3) == 0 ? 15 : 3);
            due("bound(" + way + ", " + v + ")", school.bound(way, v), model.bound(way, v));
        }
    }

    private void melodyCall() {
        if (model.tooManyMelodies()) {
            check.isTrue("melodies() is 0 or above", school.melodies() >= 0);
            return;
        }
        int kind = random.nextInt(4);
        if (kind == 0) {
            due("melodies()", school.melodies(), model.melodies());
        } else if (kind == 1) {
            due("place()", school.place(), model.place());
        } else {
            long k = someNumber(model.melodies());
            due("melody(" + k + ")", school.melody(k), model.melody(k));
        }
    }

    private void rhythmCall() {
        int kind = random.nextInt(10);
        if (kind < 2) {
            int many = about(1, 6);
            int beat = random.nextInt(4) == 0 ? about(1, 96) : about(1, 8);
            due("bars(" + many + ", " + beat + ")", school.bars(many, beat), model.bars(many, beat));
        } else if (kind < 5) {
            int length = random.nextInt(4) == 0 ? about(1, 96) : about(1, 8);
            boolean on = random.nextInt(3) > 0;
            due("some(" + length + ", " + on + ")", school.some(length, on), model.some(length, on));
        } else if (model.tooManyRhythms()) {
            check.isTrue("rhythms() is 0 or above", school.rhythms() >= 0);
        } else if (kind < 7) {
            due("rhythms()", school.rhythms(), model.rhythms());
        } else {
            long k = someNumber(model.rhythms());
            due("rhythm(" + k + ")", school.rhythm(k), model.rhythm(k));
        }
    }

    private void chordCall() {
        int kind = random.nextInt(20);
        if (kind == 0) {
            due("clear()", school.clear(), model.clear());
        } else if (kind < 6) {
            int mask = random.nextInt(10) == 0 ? about(0, 4095) : 1 << random.nextInt(12)
                    | 1 << random.nextInt(12) | 1 << random.nextInt(12);
            due("mask(" + mask + ")", school.mask(mask), model.mask(mask));
        } else if (kind < 9) {
            int way = about(0, 3);
            int v = way == 3 ? about(0, 12) : random.nextInt(8) == 0 ? about(0, 116) : about(40, 70);
            due("voice(" + way + ", " + v + ")", school.voice(way, v), model.voice(way, v));
        } else if (kind < 12) {
            due("chords()", school.chords(), model.chords());
        } else {
            long k = someNumber(model.chords());
            int i = about(0, 5);
            int v = about(0, 2);
            due("chord(" + k + ", " + i + ", " + v + ")", school.chord(k, i, v), model.chord(k, i, v));
        }
    }

    /** THE ROW is meant and answered with slips: wrong, lost, more, doubled, shifted from somewhere on. */
    private void answerWithSlips() {
        int[] pitches = Rows.read(school, 0);
        int[] lengths = Rows.read(school, 1);
        due("meant()", school.meant(), model.meant());
        due("drop()", school.drop(), model.drop());
        int shift = 0;
        for (int i = 0; i < pitches.length; i++) {
            int slip = random.nextInt(16);
            shift = slip == 0 ? random.nextInt(29) - 14 : shift;
            int pitch = pitches[i] + shift + (slip == 1 ? 1 : 0);
            int length = slip == 2 ? 5 : lengths[i];
            int times = slip == 3 ? 0 : slip < 7 && slip > 4 ? 2 : 1;
            for (int t = 0; t < times; t++) {
                due("note(" + pitch + ", " + length + ")", school.note(pitch, length), model.note(pitch, length));
            }
        }
        due("judge()", school.judge(), model.judge());
        for (int i = 0; i < model.count(2); i++) {
            for (int what = 0; what < 4; what++) {
                due("act(" + i + ", " + what + ")", school.act(i, what), model.act(i, what));
            }
        }
    }

    private void judgeCall() {
        int kind = random.nextInt(24);
        if (kind == 0) {
            answerWithSlips();
        } else if (kind < 3) {
            due("meant()", school.meant(), model.meant());
        } else if (kind < 6) {
            due("judge()", school.judge(), model.judge());
        } else {
            int i = about(0, Math.max(0, model.count(2)));
            int what = about(0, 3);
            due("act(" + i + ", " + what + ")", school.act(i, what), model.act(i, what));
        }
    }

    private void pupilCall() {
        int kind = random.nextInt(12);
        int pupil = about(0, random.nextBoolean() ? 5 : 1);
        if (kind < 3) {
            due("learn(" + pupil + ")", school.learn(pupil), model.learn(pupil));
        } else if (kind < 8) {
            int size = about(0, 12);
            int what = about(0, 2);
            due("table(" + pupil + ", " + size + ", " + what + ")",
                    school.table(pupil, size, what), model.table(pupil, size, what));
        } else if (kind < 10) {
            int what = about(0, 5);
            due("count(" + what + ")", school.count(what), model.count(what));
        } else if (!model.tooManyMelodies()) {
            due("drill(" + pupil + ")", school.drill(pupil), model.drill(pupil));
        }
    }
}
