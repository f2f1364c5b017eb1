import java.math.BigInteger;
import java.util.Arrays;
import java.util.Random;

/** Promises 8, 9, 10, 13, 14 and 25 where there are too many to be listed: the answers are those of Ahead. */
public final class LargeTest {
    private static final int RUNS = 40;
    private static final BigInteger MANY = BigInteger.TEN.pow(18);
    private static final int[] LENGTHS = {1, 2, 3, 4, 6, 8, 12, 16, 24, 32, 48, 96};

    private final Check check;
    private final Random random;
    private final EarSchool school = new EarSchool();
    private final Ahead ahead = new Ahead();

    private LargeTest(Check check, int seed) {
        this.check = check;
        this.random = new Random(seed);
    }

    public static void main(String[] args) {
        Check check = new Check();
        for (int seed = 0; seed < RUNS && !check.anyWrong(); seed++) {
            LargeTest test = new LargeTest(check, seed);
            test.setRule();
            test.melodies();
            test.drills();
            test.setMetre();
            test.rhythms();
        }
        check.finish();
    }

    private void due(int promise, String call, long got, BigInteger want) {
        check.due("promise " + promise + ", " + ahead + ": " + call, got, want.min(MANY).longValueExact());
    }

    private void dueRow(int promise, String call, int what, int[] want) {
        int[] got = Rows.read(school, what);
        check.isTrue("promise " + promise + ", " + ahead + ": " + call + " makes the row " + Arrays.toString(want)
                + ", not " + Arrays.toString(got), Arrays.equals(got, want));
    }

    /** Most of so many bits: few melodies are left where many bits are away. */
    private int manyBits(int most) {
        int all = (1 << most) - 1;
        return all & (random.nextInt() | random.nextInt() | (random.nextBoolean() ? all : random.nextInt()));
    }

    private void setRule() {
        ahead.low = random.nextInt(92);
        ahead.high = ahead.low + 8 + random.nextInt(29);
        ahead.n = 5 + random.nextInt(12);
        ahead.leap = 1 + random.nextInt(13);
        ahead.repeats = random.nextInt(16);
        school.range(ahead.low, ahead.high, ahead.n);
        for (int way = 0; way < 4; way++) {
            ahead.bits[way] = manyBits(way == 3 ? 25 : 12);
            school.bits(way, ahead.bits[way]);
        }
        school.bound(0, ahead.leap);
        school.bound(1, ahead.repeats);
    }

    private BigInteger below(BigInteger most) {
        return new BigInteger(most.bitLength() + 8, random).mod(most);
    }

    private void melodies() {
        BigInteger many = ahead.melodies();
        due(8, "melodies()", school.melodies(), many);
        BigInteger told = many.min(MANY);
        check.due("promise 9, " + ahead + ": melody(" + told + ")", school.melody(told.longValueExact()),
                EarSchool.NONE);
        if (told.signum() == 0) {
            return;
        }
        BigInteger k = random.nextInt(4) == 0 ? told.subtract(BigInteger.ONE) : below(told);
        int[] pitches = ahead.melody(k);
        check.due("promise 9, " + ahead + ": melody(" + k + ")", school.melody(k.longValueExact()), 1);
        dueRow(9, "melody(" + k + ")", 0, pitches);
        due(10, "place()", school.place(), k);
        pitches[random.nextInt(pitches.length)] += random.nextInt(9) - 4;
        Rows.write(school, 24, Arrays.stream(pitches).map(p -> Math.max(0, Math.min(127, p))).toArray());
        due(10, "place()", school.place(), ahead.place(Rows.read(school, 0)));
    }

    private void drills() {
        for (int time = 0; time < 2; time++) {
            int[] weights = new int[13];
            for (int size = 0; size < 13; size++) {
                weights[size] = school.table(0, size, 2);
            }
            int[] want = ahead.drill(weights);
            check.due("promise 25, " + ahead + ": drill(0)", school.drill(0), want == null ? EarSchool.NONE : want[0]);
            if (want != null) {
                dueRow(25, "drill(0)", 0, Arrays.copyOfRange(want, 1, want.length));
            }
            learn();
        }
    }

    /** Pupil 0 answers a row of steps of any size and misses some of them. */
    private void learn() {
        int[] meant = random.ints(24, 50, 64).toArray();
        Rows.judge(school, meant, Arrays.stream(meant).map(p -> p + (random.nextInt(3) == 0 ? 1 : 0)).toArray());
        school.learn(0);
    }

    private void setMetre() {
        ahead.many = 1 + random.nextInt(6);
        ahead.beat = random.nextInt(3) == 0 ? 1 + random.nextInt(96) : LENGTHS[4 + random.nextInt(8)];
        school.bars(ahead.many, ahead.beat);
        for (int i = 0; i < 6; i++) {
            int length = LENGTHS[random.nextInt(LENGTHS.length)];
            ahead.some.add(length);
            school.some(length, true);
        }
    }

    private void rhythms() {
        BigInteger many = ahead.rhythms();
        due(13, "rhythms()", school.rhythms(), many);
        BigInteger told = many.min(MANY);
        check.due("promise 14, " + ahead + ": rhythm(" + told + ")", school.rhythm(told.longValueExact()),
                EarSchool.NONE);
        if (told.signum() > 0) {
            BigInteger k = random.nextInt(4) == 0 ? told.subtract(BigInteger.ONE) : below(told);
            int[] lengths = ahead.rhythm(k);
            check.due("promise 14, " + ahead + ": rhythm(" + k + ")", school.rhythm(k.longValueExact()),
                    lengths.length);
            dueRow(14, "rhythm(" + k + ")", 1, lengths);
        }
    }
}
