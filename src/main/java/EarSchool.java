/**
 * An ear school: melodies, rhythms and chords made by rules and told by their numbers, answers
 * judged with the fewest slips, a table of slips for each pupil, and the melody that drills best.
 */
public final class EarSchool {
    public static final int NONE = -1, BAD = -2, NOT = -3, FULL = -4;

    private static final int HIGHEST_PITCH = 127, LONGEST = 96, MOST_NOTES = 24;
    private static final int OCTAVE = 12, ALL_CLASSES = 4095, ALL_STEPS = 33554431;
    private static final int WIDEST_RANGE = 36, MOST_PITCHES = 16;
    private static final int MELODY_LENGTH = 24, RHYTHM_PITCH = 60;
    private static final int PUPILS = 6, SIZES = 13;
    private static final long MANY = 1000000000000000000L;

    private final Notes row;
    private final Notes intended;
    private final Rule rule;
    private final CountTable counts;
    private final WeightTable weights;
    private final Metre metre;
    private final Harmony harmony;
    private final Judgement judgement;
    private final Pupils pupils;

    public EarSchool() {
        row = new Notes();
        intended = new Notes();
        rule = new Rule();
        counts = new CountTable(rule);
        weights = new WeightTable(rule);
        metre = new Metre();
        harmony = new Harmony();
        judgement = new Judgement(intended, row);
        pupils = new Pupils();
    }

    // ---- the row

    public int note(int pitch, int length) {
        if (outside(pitch, 0, HIGHEST_PITCH) || outside(length, 1, LONGEST)) {
            return BAD;
        }
        if (row.size >= MOST_NOTES) {
            return FULL;
        }
        row.push(pitch, length);
        judgement.forget();
        return row.size;
    }

    public int drop() {
        int had = row.size;
        row.size = 0;
        judgement.forget();
        return had;
    }

    public int at(int i, int what) {
        if (outside(i, 0, row.size - 1) || outside(what, 0, 1)) {
            return BAD;
        }
        return what == 0 ? row.pitch[i] : row.length[i];
    }

    // ---- melodies

    public int range(int low, int high, int n) {
        if (outside(low, 0, HIGHEST_PITCH) || outside(high, low, HIGHEST_PITCH)
                || high - low > WIDEST_RANGE || outside(n, 1, MOST_PITCHES)) {
            return BAD;
        }
        rule.low = low;
        rule.high = high;
        rule.n = n;
        counts.forget();
        return 1;
    }

    public int bits(int way, int bits) {
        if (outside(way, 0, 3) || outside(bits, 0, way == 3 ? ALL_STEPS : ALL_CLASSES)) {
            return BAD;
        }
        int was = rule.bitsOf[way];
        rule.bitsOf[way] = bits;
        counts.forget();
        return was;
    }

    public int bound(int way, int v) {
        if (way == 0 && !outside(v, 1, 13)) {
            int was = rule.leap;
            rule.leap = v;
            counts.forget();
            return was;
        }
        if (way == 1 && !outside(v, 0, 15)) {
            int was = rule.repeats;
            rule.repeats = v;
            counts.forget();
            return was;
        }
        return BAD;
    }

    public long melodies() {
        counts.fill();
        return counts.total();
    }

    public int melody(long k) {
        if (k < 0) {
            return BAD;
        }
        counts.fill();
        if (k >= counts.total()) {
            return NONE;
        }
        counts.spell(k, row);
        judgement.forget();
        return 1;
    }

    public long place() {
        if (row.size != rule.n) {
            return NONE;
        }
        counts.fill();
        return counts.ahead(row);
    }

    // ---- rhythms

    public int bars(int many, int beat) {
        if (outside(many, 1, Metre.MOST_BARS) || outside(beat, 1, LONGEST)) {
            return BAD;
        }
        metre.many = many;
        metre.beat = beat;
        metre.filled = false;
        return 1;
    }

    public int some(int length, boolean on) {
        if (outside(length, 1, LONGEST)) {
            return BAD;
        }
        boolean was = metre.has(length);
        if (on && !was) {
            if (metre.size >= Metre.MOST_LENGTHS) {
                return FULL;
            }
            metre.add(length);
        }
        if (!on && was) {
            metre.remove(length);
        }
        return was ? 1 : 0;
    }

    public long rhythms() {
        metre.fill();
        return metre.total();
    }

    public int rhythm(long k) {
        if (k < 0) {
            return BAD;
        }
        metre.fill();
        if (k >= metre.total()) {
            return NONE;
        }
        metre.spell(k, row);
        judgement.forget();
        return row.size;
    }

    // ---- chords

    public int mask(int bits) {
        if (outside(bits, 0, ALL_CLASSES) || outside(Integer.bitCount(bits), 1, Harmony.VOICES)) {
            return BAD;
        }
        if (harmony.size >= Harmony.MOST_MASKS) {
            return FULL;
        }
        harmony.masks[harmony.size] = bits;
        harmony.size++;
        harmony.filled = false;
        return harmony.size;
    }

    public int clear() {
        int had = harmony.size;
        harmony.size = 0;
        harmony.filled = false;
        return had;
    }

    public int voice(int way, int v) {
        if (way == Harmony.VOICES && !outside(v, 0, OCTAVE)) {
            int was = harmony.most;
            harmony.most = v;
            harmony.filled = false;
            return was;
        }
        if (!outside(way, 0, Harmony.VOICES - 1) && !outside(v, 0, Harmony.HIGHEST_LOWEST)) {
            int was = harmony.lowest[way];
            harmony.lowest[way] = v;
            harmony.filled = false;
            return was;
        }
        return BAD;
    }

    public long chords() {
        harmony.fill();
        return harmony.total();
    }

    public int chord(long k, int i, int v) {
        if (k < 0 || outside(i, 0, harmony.size - 1) || outside(v, 0, Harmony.VOICES - 1)) {
            return BAD;
        }
        harmony.fill();
        if (k >= harmony.total()) {
            return NONE;
        }
        return harmony.pitchOf(i, harmony.threeOf(k, i), v);
    }

    // ---- judging

    public int meant() {
        intended.copy(row);
        judgement.forget();
        return intended.size;
    }

    public int judge() {
        judgement.settle();
        return judgement.sum;
    }

    public int act(int i, int what) {
        if (outside(what, 0, 3)) {
            return BAD;
        }
        if (!judgement.standing) {
            return NOT;
        }
        if (outside(i, 0, judgement.size - 1)) {
            return BAD;
        }
        switch (what) {
            case 0:
                return judgement.number[i];
            case 1:
                return judgement.ofMeant[i];
            case 2:
                return judgement.ofAnswer[i];
            default:
                return judgement.cost[i];
        }
    }

    // ---- pupils

    public int learn(int pupil) {
        if (outside(pupil, 0, PUPILS - 1)) {
            return BAD;
        }
        if (!judgement.standing) {
            return NOT;
        }
        return pupils.enter(pupil, judgement, intended);
    }

    public int table(int pupil, int size, int what) {
        if (outside(pupil, 0, PUPILS - 1) || outside(size, 0, SIZES - 1) || outside(what, 0, 2)) {
            return BAD;
        }
        if (what == 2) {
            return pupils.weight(pupil, size);
        }
        return what == 0 ? pupils.asked[pupil][size] : pupils.missed[pupil][size];
    }

    public int drill(int pupil) {
        if (outside(pupil, 0, PUPILS - 1)) {
            return BAD;
        }
        for (int size = 0; size < SIZES; size++) {
            weights.weightOf[size] = pupils.weight(pupil, size);
        }
        // The weights of another pupil, or another rule, may stand in the table.
        weights.forget();
        weights.fill();
        long sum = weights.total();
        if (sum < 0) {
            return NONE;
        }
        weights.spell(row);
        judgement.forget();
        return (int) sum;
    }

    public int count(int what) {
        switch (what) {
            case 0:
                return row.size;
            case 1:
                return intended.size;
            case 2:
                return judgement.standing ? judgement.size : NONE;
            case 3:
                return harmony.size;
            case 4:
                return metre.size;
            case 5:
                return rule.n;
            default:
                return BAD;
        }
    }

    private static boolean outside(int v, int least, int most) {
        return v < least || v > most;
    }

    /** Neither part is above MANY, so the sum stays far inside a long. */
    private static long cappedSum(long a, long b) {
        return Math.min(MANY, a + b);
    }

    private static boolean hasClass(int bits, int pitch) {
        return (bits >> (pitch % OCTAVE) & 1) != 0;
    }

    /** A row of notes; its arrays are made once and used again. */
    private static final class Notes {
        final int[] pitch = new int[MOST_NOTES];
        final int[] length = new int[MOST_NOTES];
        int size = 0;

        void push(int newPitch, int newLength) {
            if (size < MOST_NOTES) {
                pitch[size] = newPitch;
                length[size] = newLength;
                size++;
            }
        }

        void copy(Notes other) {
            size = 0;
            for (int i = 0; i < other.size; i++) {
                push(other.pitch[i], other.length[i]);
            }
        }
    }

    /**
     * The rule of melodies. What a melody's past means for its next step is one of STATES: 0 .. 15
     * is how many steps of 0 were the last ones, UP and DOWN stand behind a leap. A leap is never a
     * step of 0, so one number tells both.
     */
    private static final class Rule {
        static final int FREE = 0, MOST_REPEATS = 15, UP = 16, DOWN = 17, STATES = 18;
        static final int SCALE = 0, BEGIN = 1, END = 2, STEPS = 3;

        final int[] bitsOf = {2741, 4095, 1, 1023 << 8};
        int low = 60;
        int high = 72;
        int n = 8;
        int leap = 5;
        int repeats = 1;

        boolean mayStand(int p, int pitch) {
            return hasClass(bitsOf[SCALE], pitch)
                    && (p > 0 || hasClass(bitsOf[BEGIN], pitch))
                    && (p < n - 1 || hasClass(bitsOf[END], pitch));
        }

        boolean mayStep(int state, int step) {
            if (outside(step, -OCTAVE, OCTAVE) || (bitsOf[STEPS] >> (OCTAVE + step) & 1) == 0) {
                return false;
            }
            if (state == UP) {
                return step == -1 || step == -2;
            }
            if (state == DOWN) {
                return step == 1 || step == 2;
            }
            return step != 0 || state < repeats;
        }

        int stateBehind(int state, int step) {
            if (step == 0) {
                return Math.min(state + 1, MOST_REPEATS);
            }
            if (step >= leap) {
                return UP;
            }
            return step <= -leap ? DOWN : FREE;
        }
    }

    /**
     * For every position, pitch and state what the melodies that go on from there are worth
     * together. Counting them and finding the heaviest differ only in the four abstract methods.
     */
    private abstract static class MelodyTable {
        private static final int PITCHES = WIDEST_RANGE + 1;

        final Rule rule;
        private final long[] worth = new long[MOST_PITCHES * PITCHES * Rule.STATES];
        private boolean filled = false;

        MelodyTable(Rule rule) {
            this.rule = rule;
        }

        abstract long ofNone();

        abstract long ofEnd();

        abstract long together(long a, long b);

        abstract long stepped(int step, long rest);

        void forget() {
            filled = false;
        }

        void fill() {
            if (filled) {
                return;
            }
            for (int p = rule.n - 1; p >= 0; p--) {
                for (int pitch = rule.low; pitch <= rule.high; pitch++) {
                    fillPitch(p, pitch);
                }
            }
            filled = true;
        }

        /** The steps other than 0 are the same for all counts of repeats: they are gone through once. */
        private void fillPitch(int p, int pitch) {
            if (!rule.mayStand(p, pitch)) {
                fillStates(p, pitch, ofNone());
                return;
            }
            if (p == rule.n - 1) {
                fillStates(p, pitch, ofEnd());
                return;
            }
            long moved = ofNone();
            for (int step = -OCTAVE; step <= OCTAVE; step++) {
                if (step != 0) {
                    moved = together(moved, byStep(p, pitch, Rule.FREE, step));
                }
            }
            // No more repeats than steps can stand behind a position, and no more than may be.
            for (int state = 0; state <= Math.min(p, rule.repeats); state++) {
                put(p, pitch, state, together(moved, byStep(p, pitch, state, 0)));
            }
            put(p, pitch, Rule.UP, together(byStep(p, pitch, Rule.UP, -2), byStep(p, pitch, Rule.UP, -1)));
            put(p, pitch, Rule.DOWN, together(byStep(p, pitch, Rule.DOWN, 1), byStep(p, pitch, Rule.DOWN, 2)));
        }

        private void fillStates(int p, int pitch, long value) {
            for (int state = 0; state < Rule.STATES; state++) {
                put(p, pitch, state, value);
            }
        }

        private int index(int p, int pitch, int state) {
            return (p * PITCHES + pitch - rule.low) * Rule.STATES + state;
        }

        private void put(int p, int pitch, int state, long value) {
            int index = index(p, pitch, state);
            if (!outside(index, 0, worth.length - 1)) {
                worth[index] = value;
            }
        }

        long from(int p, int pitch, int state) {
            int index = index(p, pitch, state);
            return outside(index, 0, worth.length - 1) ? ofNone() : worth[index];
        }

        private long byStep(int p, int pitch, int state, int step) {
            if (outside(pitch + step, rule.low, rule.high) || !rule.mayStep(state, step)) {
                return ofNone();
            }
            return stepped(step, from(p + 1, pitch + step, rule.stateBehind(state, step)));
        }

        /** What all melodies are worth that come to position p in this state and go on to the pitch. */
        long onward(int p, int before, int state, int pitch) {
            if (p > 0) {
                return byStep(p - 1, before, state, pitch - before);
            }
            return outside(pitch, rule.low, rule.high) ? ofNone() : from(0, pitch, Rule.FREE);
        }

        int stateAt(int p, int before, int state, int pitch) {
            return p == 0 ? Rule.FREE : rule.stateBehind(state, pitch - before);
        }

        long total() {
            long all = ofNone();
            for (int pitch = rule.low; pitch <= rule.high; pitch++) {
                all = together(all, from(0, pitch, Rule.FREE));
            }
            return all;
        }
    }

    /** How many melodies go on from each place. */
    private static final class CountTable extends MelodyTable {
        CountTable(Rule rule) {
            super(rule);
        }

        long ofNone() {
            return 0;
        }

        long ofEnd() {
            return 1;
        }

        long together(long a, long b) {
            return cappedSum(a, b);
        }

        long stepped(int step, long rest) {
            return rest;
        }

        /** Melody k, which must be below the total, becomes the row. */
        void spell(long k, Notes row) {
            long left = k;
            int before = rule.low;
            int state = Rule.FREE;
            row.size = 0;
            for (int p = 0; p < rule.n; p++) {
                int pitch = rule.low;
                long here = onward(p, before, state, pitch);
                while (pitch < rule.high && left >= here) {
                    left -= here;
                    pitch++;
                    here = onward(p, before, state, pitch);
                }
                state = stateAt(p, before, state, pitch);
                before = pitch;
                row.push(pitch, MELODY_LENGTH);
            }
        }

        /** How many melodies are ahead of a row of n notes that need not be a melody itself. */
        long ahead(Notes row) {
            long sum = 0;
            int before = rule.low;
            int state = Rule.FREE;
            for (int p = 0; p < rule.n && p < row.size; p++) {
                int own = row.pitch[p];
                for (int pitch = rule.low; pitch < own && pitch <= rule.high; pitch++) {
                    sum = cappedSum(sum, onward(p, before, state, pitch));
                }
                // No melody begins like the row up to here: none of the later pitches matters.
                if (onward(p, before, state, own) == 0) {
                    return sum;
                }
                state = stateAt(p, before, state, own);
                before = own;
            }
            return sum;
        }
    }

    /** The greatest sum of weights of the steps that go on from each place; below 0: no melody does. */
    private static final class WeightTable extends MelodyTable {
        final int[] weightOf = new int[SIZES];

        WeightTable(Rule rule) {
            super(rule);
        }

        long ofNone() {
            return -1;
        }

        long ofEnd() {
            return 0;
        }

        long together(long a, long b) {
            return Math.max(a, b);
        }

        long stepped(int step, long rest) {
            int size = Math.abs(step);
            return rest < 0 || size >= SIZES ? ofNone() : rest + weightOf[size];
        }

        /** The first of the heaviest melodies becomes the row; there must be one. */
        void spell(Notes row) {
            long left = total();
            int before = rule.low;
            int state = Rule.FREE;
            row.size = 0;
            for (int p = 0; p < rule.n; p++) {
                int pitch = rule.low;
                while (pitch < rule.high && onward(p, before, state, pitch) != left) {
                    pitch++;
                }
                state = stateAt(p, before, state, pitch);
                before = pitch;
                left = from(p, pitch, state);
                row.push(pitch, MELODY_LENGTH);
            }
        }
    }

    /** Rhythms: for every time and every count of notes that are left how many ways fill the rest. */
    private static final class Metre {
        static final int MOST_LENGTHS = 6, MOST_BARS = 6;
        private static final int TIMES = MOST_BARS * LONGEST + 1;

        final int[] lengths = new int[MOST_LENGTHS]; // rising, so that the first comes first in order
        int size = 0;
        int many = 2;
        int beat = 48;
        boolean filled = false;
        private final long[] ways = new long[(MOST_NOTES + 1) * TIMES];

        boolean has(int length) {
            for (int i = 0; i < size; i++) {
                if (lengths[i] == length) {
                    return true;
                }
            }
            return false;
        }

        void add(int length) {
            if (size >= MOST_LENGTHS) {
                return;
            }
            int i = size;
            while (i > 0 && lengths[i - 1] > length) {
                lengths[i] = lengths[i - 1];
                i--;
            }
            lengths[i] = length;
            size++;
            filled = false;
        }

        void remove(int length) {
            int kept = 0;
            for (int i = 0; i < size; i++) {
                if (lengths[i] != length) {
                    lengths[kept] = lengths[i];
                    kept++;
                }
            }
            size = kept;
            filled = false;
        }

        void fill() {
            if (filled) {
                return;
            }
            for (int left = 0; left <= MOST_NOTES; left++) {
                for (int bar = 0; bar < many; bar++) {
                    fillBar(left, bar * beat);
                }
                put(left, many * beat, 1);
            }
            filled = true;
        }

        private void fillBar(int left, int start) {
            for (int gone = 0; gone < beat; gone++) {
                long sum = 0;
                for (int i = 0; i < size; i++) {
                    sum = cappedSum(sum, onward(left, start + gone, beat - gone, lengths[i]));
                }
                put(left, start + gone, sum);
            }
        }

        private void put(int left, int time, long value) {
            int index = left * TIMES + time;
            if (!outside(index, 0, ways.length - 1)) {
                ways[index] = value;
            }
        }

        /** How many rhythms go on with the length, where the bar has so much room. */
        private long onward(int left, int time, int room, int length) {
            if (left <= 0 || length > room) {
                return 0;
            }
            int index = (left - 1) * TIMES + time + length;
            return outside(index, 0, ways.length - 1) ? 0 : ways[index];
        }

        long total() {
            return ways[MOST_NOTES * TIMES];
        }

        /** Rhythm k, which must be below the total, becomes the row. */
        void spell(long k, Notes row) {
            long rest = k;
            int time = 0;
            int room = beat;
            row.size = 0;
            for (int left = MOST_NOTES; left > 0 && time < many * beat; left--) {
                int i = 0;
                long here = onward(left, time, room, lengths[i]);
                while (i < size - 1 && rest >= here) {
                    rest -= here;
                    i++;
                    here = onward(left, time, room, lengths[i]);
                }
                row.push(RHYTHM_PITCH, lengths[i]);
                time += lengths[i];
                room = room > lengths[i] ? room - lengths[i] : beat;
            }
        }
    }

    /**
     * Chords. Each voice has every class just once, so a mask leaves six threes at most: of three
     * classes the orders, of two classes all but the two threes of one class alone.
     */
    private static final class Harmony {
        static final int VOICES = 3, MOST_MASKS = 6, HIGHEST_LOWEST = 116;
        private static final int MOST_THREES = 6, FIFTH = 7;

        final int[] masks = new int[MOST_MASKS];
        final int[] lowest = {48, 55, 64};
        int size = 0;
        int most = 5;
        boolean filled = false;
        private final int[] threes = new int[MOST_MASKS]; // how many each mask leaves
        private final int[] pitches = new int[MOST_MASKS * MOST_THREES * VOICES];
        private final long[] ways = new long[MOST_MASKS * MOST_THREES];

        void fill() {
            if (filled) {
                return;
            }
            for (int i = size - 1; i >= 0; i--) {
                findThrees(i);
                for (int t = 0; t < threes[i]; t++) {
                    ways[i * MOST_THREES + t] = i == size - 1 ? 1 : waysBehind(i, t);
                }
            }
            filled = true;
        }

        private void findThrees(int i) {
            threes[i] = 0;
            for (int below = lowest[0]; below < lowest[0] + OCTAVE; below++) {
                if (hasClass(masks[i], below)) {
                    findAbove(i, below);
                }
            }
        }

        private void findAbove(int i, int below) {
            for (int between = Math.max(lowest[1], below + 1); between < lowest[1] + OCTAVE; between++) {
                if (!hasClass(masks[i], between)) {
                    continue;
                }
                for (int above = Math.max(lowest[2], between + 1); above < lowest[2] + OCTAVE; above++) {
                    int classes = 1 << below % OCTAVE | 1 << between % OCTAVE | 1 << above % OCTAVE;
                    if (classes == masks[i] && threes[i] < MOST_THREES) {
                        int index = (i * MOST_THREES + threes[i]) * VOICES;
                        pitches[index] = below;
                        pitches[index + 1] = between;
                        pitches[index + 2] = above;
                        threes[i]++;
                    }
                }
            }
        }

        private long waysBehind(int i, int t) {
            long sum = 0;
            for (int next = 0; next < threes[i + 1]; next++) {
                if (mayFollow(i, t, next)) {
                    sum = cappedSum(sum, ways[(i + 1) * MOST_THREES + next]);
                }
            }
            return sum;
        }

        private boolean mayFollow(int i, int t, int next) {
            for (int v = 0; v < VOICES; v++) {
                if (Math.abs(pitchOf(i + 1, next, v) - pitchOf(i, t, v)) > most) {
                    return false;
                }
                for (int w = 0; w < v; w++) {
                    if (parallel(i, t, next, w, v)) {
                        return false;
                    }
                }
            }
            return true;
        }

        /** Whether both voices go the same way from an octave to an octave, or from a fifth to a fifth. */
        private boolean parallel(int i, int t, int next, int lower, int upper) {
            int low = pitchOf(i, t, lower);
            int high = pitchOf(i, t, upper);
            int nextLow = pitchOf(i + 1, next, lower);
            int nextHigh = pitchOf(i + 1, next, upper);
            boolean bothUp = nextLow > low && nextHigh > high;
            boolean bothDown = nextLow < low && nextHigh < high;
            int distance = (high - low) % OCTAVE;
            return (bothUp || bothDown) && distance == (nextHigh - nextLow) % OCTAVE
                    && (distance == 0 || distance == FIFTH);
        }

        int pitchOf(int i, int t, int v) {
            int index = (i * MOST_THREES + t) * VOICES + v;
            return outside(index, 0, pitches.length - 1) ? NONE : pitches[index];
        }

        long total() {
            long sum = 0;
            for (int t = 0; size > 0 && t < threes[0]; t++) {
                sum = cappedSum(sum, ways[t]);
            }
            return sum;
        }

        /** Which three of mask "until" stands in chords k, which must be below the total. */
        int threeOf(long k, int until) {
            long left = k;
            int before = 0;
            for (int i = 0; i <= until && i < size; i++) {
                int found = 0;
                for (int t = 0; t < threes[i]; t++) {
                    if (i > 0 && !mayFollow(i - 1, before, t)) {
                        continue;
                    }
                    found = t;
                    if (left < ways[i * MOST_THREES + t]) {
                        break;
                    }
                    left -= ways[i * MOST_THREES + t];
                }
                before = found;
            }
            return before;
        }
    }

    /**
     * The acts that lead from what is meant to the answer. For every place in both rows and every
     * shift the least cost of the rest is kept; the acts are then read off from the beginning.
     */
    private static final class Judgement {
        static final int HIT = 0, LOST = 1, MORE = 2, SHIFT = 15;
        static final int PITCH_COST = 2, LENGTH_COST = 1, AGAIN_COST = 1, COST = 3;
        private static final int FAR = 1000000;
        private static final int PLACES = MOST_NOTES + 1, SHIFTS = 2 * OCTAVE + 1;
        // An act for every note of both, and a shift ahead of each of them.
        private static final int MOST_ACTS = 4 * MOST_NOTES;

        private final Notes meantNotes;
        private final Notes answer;
        private final int[] least = new int[PLACES * PLACES * SHIFTS];
        final int[] number = new int[MOST_ACTS];
        final int[] ofMeant = new int[MOST_ACTS];
        final int[] ofAnswer = new int[MOST_ACTS];
        final int[] cost = new int[MOST_ACTS];
        int size = 0;
        int sum = 0;
        boolean standing = false;

        Judgement(Notes meantNotes, Notes answer) {
            this.meantNotes = meantNotes;
            this.answer = answer;
        }

        void forget() {
            standing = false;
        }

        void settle() {
            if (standing) {
                return;
            }
            for (int i = meantNotes.size; i >= 0; i--) {
                for (int j = answer.size; j >= 0; j--) {
                    if (i == meantNotes.size || j == answer.size) {
                        fillBorder(i, j);
                    } else {
                        fillInside(i, j);
                    }
                }
            }
            readActs();
            sum = from(0, 0, 0);
            standing = true;
        }

        /** Where a row is at its end, one kind of act is left, and the cost is that of any shift. */
        private void fillBorder(int i, int j) {
            int start = index(i, j, -OCTAVE);
            int cost = unshifted(i, j, 0);
            for (int c = 0; c < SHIFTS && start + c < least.length; c++) {
                least[start + c] = cost;
            }
        }

        private void fillInside(int i, int j) {
            int start = index(i, j, -OCTAVE);
            int hit = index(i + 1, j + 1, -OCTAVE);
            int lost = index(i + 1, j, -OCTAVE);
            int more = index(i, j + 1, -OCTAVE);
            int right = answer.pitch[j] - meantNotes.pitch[i] + OCTAVE;
            int lengthCost = lengthCost(i, j);
            int moreCost = moreCost(j);
            int best = FAR;
            for (int c = 0; c < SHIFTS && hit + c < least.length; c++) {
                int cost = least[hit + c] + lengthCost + (c == right ? 0 : PITCH_COST);
                cost = Math.min(cost, least[lost + c] + COST);
                cost = Math.min(cost, least[more + c] + moreCost);
                least[start + c] = cost;
                best = Math.min(best, cost);
            }
            // Where c itself is the best one, staying costs less: that the shift is another needs no test.
            for (int c = 0; c < SHIFTS && hit + c < least.length; c++) {
                least[start + c] = Math.min(least[start + c], best + COST);
            }
        }

        private int index(int i, int j, int c) {
            return (i * PLACES + j) * SHIFTS + c + OCTAVE;
        }

        private int from(int i, int j, int c) {
            int index = index(i, j, c);
            return outside(index, 0, least.length - 1) ? FAR : least[index];
        }

        /** The least cost of the rest, if the next act is no shift. */
        private int unshifted(int i, int j, int c) {
            if (i >= meantNotes.size && j >= answer.size) {
                return 0;
            }
            return Math.min(byHit(i, j, c), Math.min(byLost(i, j, c), byMore(i, j, c)));
        }

        private int byHit(int i, int j, int c) {
            if (i >= meantNotes.size || j >= answer.size) {
                return FAR;
            }
            return hitCost(i, j, c) + from(i + 1, j + 1, c);
        }

        private int byLost(int i, int j, int c) {
            return i >= meantNotes.size ? FAR : COST + from(i + 1, j, c);
        }

        private int byMore(int i, int j, int c) {
            return j >= answer.size ? FAR : moreCost(j) + from(i, j + 1, c);
        }

        private int hitCost(int i, int j, int c) {
            return lengthCost(i, j) + (answer.pitch[j] == meantNotes.pitch[i] + c ? 0 : PITCH_COST);
        }

        private int lengthCost(int i, int j) {
            return answer.length[j] == meantNotes.length[i] ? 0 : LENGTH_COST;
        }

        private int moreCost(int j) {
            boolean again = j > 0 && answer.pitch[j] == answer.pitch[j - 1]
                    && answer.length[j] == answer.length[j - 1];
            return again ? AGAIN_COST : COST;
        }

        private void readActs() {
            int i = 0;
            int j = 0;
            int c = 0;
            boolean behindShift = false;
            size = 0;
            for (int k = 0; k < MOST_ACTS && (i < meantNotes.size || j < answer.size); k++) {
                int next = nextAct(i, j, c, behindShift);
                behindShift = next > MORE;
                if (next == HIT) {
                    push(next, i, j, hitCost(i, j, c));
                    i++;
                    j++;
                } else if (next == LOST) {
                    push(next, i, NONE, COST);
                    i++;
                } else if (next == MORE) {
                    push(next, NONE, j, moreCost(j));
                    j++;
                } else {
                    push(next, NONE, NONE, COST);
                    c = next - SHIFT;
                }
            }
        }

        /** The least number of an act that still leads to the least cost. */
        private int nextAct(int i, int j, int c, boolean behindShift) {
            int due = behindShift ? unshifted(i, j, c) : from(i, j, c);
            if (byHit(i, j, c) == due) {
                return HIT;
            }
            if (byLost(i, j, c) == due) {
                return LOST;
            }
            if (byMore(i, j, c) == due) {
                return MORE;
            }
            int d = -OCTAVE;
            while (d < OCTAVE && COST + unshifted(i, j, d) != due) {
                d++;
            }
            return SHIFT + d;
        }

        private void push(int act, int i, int j, int itsCost) {
            if (size < MOST_ACTS) {
                number[size] = act;
                ofMeant[size] = i;
                ofAnswer[size] = j;
                cost[size] = itsCost;
                size++;
            }
        }

        boolean missed(int act) {
            return number[act] == LOST || number[act] == HIT && cost[act] >= PITCH_COST;
        }
    }

    /** Of each pupil how often each size of a step was asked and missed. */
    private static final class Pupils {
        final int[][] asked = new int[PUPILS][SIZES];
        final int[][] missed = new int[PUPILS][SIZES];

        int weight(int pupil, int size) {
            int times = asked[pupil][size];
            return times <= 0 ? 6 : 1 + 10 * missed[pupil][size] / times;
        }

        int enter(int pupil, Judgement judgement, Notes meantNotes) {
            int slips = 0;
            for (int act = 0; act < judgement.size; act++) {
                int i = judgement.ofMeant[act];
                if (outside(i, 1, meantNotes.size - 1)) {
                    continue;
                }
                int step = Math.abs(meantNotes.pitch[i] - meantNotes.pitch[i - 1]);
                int size = Math.min(step, SIZES - 1);
                asked[pupil][size]++;
                if (judgement.missed(act)) {
                    missed[pupil][size]++;
                    slips++;
                }
            }
            return slips;
        }
    }
}
