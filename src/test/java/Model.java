import java.util.ArrayList;
import java.util.HashMap;
import java.util.List;
import java.util.Map;

/**
 * The document in its plainest form: everything is listed and looked through. It is only asked where
 * the lists stay short (see TOO_MANY). Its methods are those of EarSchool.
 */
final class Model {
    static final int NONE = -1, BAD = -2, NOT = -3, FULL = -4;
    private static final int STEP_LIMIT = 50000;

    /** What a list that grows too long is answered with: nothing can be said of it then. */
    static final List<int[]> TOO_MANY = new ArrayList<>();

    private record Note(int pitch, int length) {
    }

    private record Act(int number, int meant, int answer, int cost) {
    }

    private record Judged(int cost, String numbers, Act first, Judged rest) {
    }

    private List<Note> row = new ArrayList<>();
    private List<Note> meant = new ArrayList<>();
    private Judged judged = null;
    private final List<Act> acts = new ArrayList<>();

    private int low = 60, high = 72, n = 8, leap = 5, repeats = 1;
    private final int[] bits = {2741, 4095, 1, 1023 * 256};

    private int many = 2, beat = 48;
    private final List<Integer> some = new ArrayList<>();

    private final List<Integer> masks = new ArrayList<>();
    private final int[] lowest = {48, 55, 64};
    private int most = 5;

    private final int[][] asked = new int[6][13];
    private final int[][] missed = new int[6][13];

    private List<int[]> melodyList = null, rhythmList = null, chordList = null;
    private int steps = 0; // beginnings tried for one list: few ends may stand behind many beginnings

    // ---- the row

    int note(int pitch, int length) {
        if (pitch < 0 || pitch > 127 || length < 1 || length > 96) {
            return BAD;
        }
        if (row.size() == 24) {
            return FULL;
        }
        row.add(new Note(pitch, length));
        judged = null;
        return row.size();
    }

    int drop() {
        int had = row.size();
        row = new ArrayList<>();
        judged = null;
        return had;
    }

    int at(int i, int what) {
        if (i < 0 || i >= row.size() || what < 0 || what > 1) {
            return BAD;
        }
        return what == 0 ? row.get(i).pitch : row.get(i).length;
    }

    // ---- melodies

    int range(int newLow, int newHigh, int newN) {
        if (newLow < 0 || newLow > 127 || newHigh < newLow || newHigh > 127 || newHigh > newLow + 36
                || newN < 1 || newN > 16) {
            return BAD;
        }
        low = newLow;
        high = newHigh;
        n = newN;
        melodyList = null;
        return 1;
    }

    int bits(int way, int newBits) {
        if (way < 0 || way > 3 || newBits < 0 || newBits >= (way == 3 ? 1 << 25 : 1 << 12)) {
            return BAD;
        }
        int was = bits[way];
        bits[way] = newBits;
        melodyList = null;
        return was;
    }

    int bound(int way, int v) {
        if (way < 0 || way > 1 || way == 0 && (v < 1 || v > 13) || way == 1 && (v < 0 || v > 15)) {
            return BAD;
        }
        melodyList = null;
        int was = way == 0 ? leap : repeats;
        if (way == 0) {
            leap = v;
        } else {
            repeats = v;
        }
        return was;
    }

    private static boolean inBits(int set, int bit) {
        return (set & (1 << bit)) != 0;
    }

    /** Whether the pitches may be the beginning of a melody (the last pitch is looked at when all are there). */
    private boolean mayBegin(int[] pitches, int length) {
        int zeros = 0;
        for (int i = 0; i < length; i++) {
            int pitch = pitches[i];
            if (pitch < low || pitch > high || !inBits(bits[0], pitch % 12)) {
                return false;
            }
            if (i == 0 && !inBits(bits[1], pitch % 12) || i == n - 1 && !inBits(bits[2], pitch % 12)) {
                return false;
            }
            if (i == 0) {
                continue;
            }
            int step = pitch - pitches[i - 1];
            if (step < -12 || step > 12 || !inBits(bits[3], 12 + step)) {
                return false;
            }
            zeros = step == 0 ? zeros + 1 : 0;
            if (zeros > repeats) {
                return false;
            }
            if (i >= 2) {
                int before = pitches[i - 1] - pitches[i - 2];
                if (before >= leap && step != -1 && step != -2) {
                    return false;
                }
                if (-before >= leap && step != 1 && step != 2) {
                    return false;
                }
            }
        }
        return true;
    }

    private boolean listMelodies(int[] pitches, int length, List<int[]> into) {
        steps++;
        if (length == n) {
            into.add(pitches.clone());
            return steps <= STEP_LIMIT;
        }
        for (int pitch = low; pitch <= high; pitch++) {
            pitches[length] = pitch;
            if (mayBegin(pitches, length + 1) && !listMelodies(pitches, length + 1, into)) {
                return false;
            }
        }
        return steps <= STEP_LIMIT;
    }

    private List<int[]> allMelodies() {
        if (melodyList == null) {
            List<int[]> list = new ArrayList<>();
            steps = 0;
            melodyList = listMelodies(new int[n], 0, list) ? list : TOO_MANY;
        }
        return melodyList;
    }

    boolean tooManyMelodies() {
        return allMelodies() == TOO_MANY;
    }

    long melodies() {
        return allMelodies().size();
    }

    private void melodyToRow(int[] pitches) {
        row = new ArrayList<>();
        for (int pitch : pitches) {
            row.add(new Note(pitch, 24));
        }
        judged = null;
    }

    int melody(long k) {
        if (k < 0) {
            return BAD;
        }
        if (k >= allMelodies().size()) {
            return NONE;
        }
        melodyToRow(allMelodies().get((int) k));
        return 1;
    }

    private boolean isAhead(int[] pitches) {
        for (int i = 0; i < pitches.length; i++) {
            if (pitches[i] != row.get(i).pitch) {
                return pitches[i] < row.get(i).pitch;
            }
        }
        return false;
    }

    long place() {
        if (row.size() != n) {
            return NONE;
        }
        return allMelodies().stream().filter(this::isAhead).count();
    }

    // ---- rhythms

    int bars(int newMany, int newBeat) {
        if (newMany < 1 || newMany > 6 || newBeat < 1 || newBeat > 96) {
            return BAD;
        }
        many = newMany;
        beat = newBeat;
        rhythmList = null;
        return 1;
    }

    int some(int length, boolean on) {
        if (length < 1 || length > 96) {
            return BAD;
        }
        boolean was = some.contains(length);
        if (on && !was) {
            if (some.size() == 6) {
                return FULL;
            }
            some.add(length);
        }
        if (!on) {
            some.remove((Integer) length);
        }
        rhythmList = null;
        return was ? 1 : 0;
    }

    private boolean listRhythms(List<Integer> lengths, int time, List<int[]> into) {
        steps++;
        if (time == many * beat) {
            into.add(lengths.stream().mapToInt(Integer::intValue).toArray());
            return steps <= STEP_LIMIT;
        }
        if (lengths.size() == 24) {
            return steps <= STEP_LIMIT;
        }
        for (int length = 1; length <= 96; length++) {
            int endOfBar = (time / beat + 1) * beat;
            if (!some.contains(length) || time + length > endOfBar) {
                continue;
            }
            lengths.add(length);
            boolean go = listRhythms(lengths, time + length, into);
            lengths.remove(lengths.size() - 1);
            if (!go) {
                return false;
            }
        }
        return steps <= STEP_LIMIT;
    }

    private List<int[]> allRhythms() {
        if (rhythmList == null) {
            List<int[]> list = new ArrayList<>();
            steps = 0;
            rhythmList = listRhythms(new ArrayList<>(), 0, list) ? list : TOO_MANY;
        }
        return rhythmList;
    }

    boolean tooManyRhythms() {
        return allRhythms() == TOO_MANY;
    }

    long rhythms() {
        return allRhythms().size();
    }

    int rhythm(long k) {
        if (k < 0) {
            return BAD;
        }
        if (k >= allRhythms().size()) {
            return NONE;
        }
        row = new ArrayList<>();
        for (int length : allRhythms().get((int) k)) {
            row.add(new Note(60, length));
        }
        judged = null;
        return row.size();
    }

    // ---- chords

    int mask(int newMask) {
        if (newMask < 0 || newMask > 4095 || Integer.bitCount(newMask) < 1 || Integer.bitCount(newMask) > 3) {
            return BAD;
        }
        if (masks.size() == 6) {
            return FULL;
        }
        masks.add(newMask);
        chordList = null;
        return masks.size();
    }

    int clear() {
        int had = masks.size();
        masks.clear();
        chordList = null;
        return had;
    }

    int voice(int way, int v) {
        if (way < 0 || way > 3 || v < 0 || v > (way == 3 ? 12 : 116)) {
            return BAD;
        }
        chordList = null;
        int was = way == 3 ? most : lowest[way];
        if (way == 3) {
            most = v;
        } else {
            lowest[way] = v;
        }
        return was;
    }

    private List<int[]> threes(int newMask) {
        List<int[]> list = new ArrayList<>();
        for (int a = lowest[0]; a <= lowest[0] + 11; a++) {
            for (int b = lowest[1]; b <= lowest[1] + 11; b++) {
                for (int c = lowest[2]; c <= lowest[2] + 11; c++) {
                    int classes = (1 << (a % 12)) | (1 << (b % 12)) | (1 << (c % 12));
                    if (a < b && b < c && classes == newMask) {
                        list.add(new int[] {a, b, c});
                    }
                }
            }
        }
        return list;
    }

    private boolean mayFollow(int[] from, int[] to) {
        for (int v = 0; v < 3; v++) {
            if (to[v] > from[v] + most || to[v] < from[v] - most) {
                return false;
            }
        }
        for (int v = 0; v < 3; v++) {
            for (int w = v + 1; w < 3; w++) {
                boolean sameWay = Integer.signum(to[v] - from[v]) * Integer.signum(to[w] - from[w]) == 1;
                int before = (from[w] - from[v]) % 12;
                int after = (to[w] - to[v]) % 12;
                if (sameWay && (before == 0 && after == 0 || before == 7 && after == 7)) {
                    return false;
                }
            }
        }
        return true;
    }

    private List<int[]> allChords() {
        if (chordList != null) {
            return chordList;
        }
        List<int[]> list = new ArrayList<>();
        for (int i = 0; i < masks.size(); i++) {
            List<int[]> longer = new ArrayList<>();
            List<int[]> ends = threes(masks.get(i));
            if (i == 0) {
                longer.addAll(ends);
            }
            for (int[] begun : list) {
                int[] last = {begun[3 * i - 3], begun[3 * i - 2], begun[3 * i - 1]};
                for (int[] end : ends) {
                    if (mayFollow(last, end)) {
                        int[] all = java.util.Arrays.copyOf(begun, 3 * i + 3);
                        System.arraycopy(end, 0, all, 3 * i, 3);
                        longer.add(all);
                    }
                }
            }
            list = longer;
        }
        chordList = list;
        return list;
    }

    long chords() {
        return allChords().size();
    }

    int chord(long k, int i, int v) {
        if (k < 0 || i < 0 || i >= masks.size() || v < 0 || v > 2) {
            return BAD;
        }
        return k >= allChords().size() ? NONE : allChords().get((int) k)[3 * i + v];
    }

    // ---- judging

    int meant() {
        meant = new ArrayList<>(row);
        judged = null;
        return meant.size();
    }

    /** The way that begins with the act, if it costs less, or the same and its numbers come first. */
    private static Judged better(Judged best, Act act, Judged rest) {
        int cost = act.cost + rest.cost;
        if (best != null && cost > best.cost) {
            return best;
        }
        String numbers = (char) act.number + rest.numbers;
        if (best != null && cost == best.cost && numbers.compareTo(best.numbers) >= 0) {
            return best;
        }
        return new Judged(cost, numbers, act, rest);
    }

    private Judged bestRest(int i, int j, int c, boolean behindShift, Map<Integer, Judged> known) {
        if (i == meant.size() && j == row.size()) {
            return new Judged(0, "", null, null);
        }
        int key = ((i * 25 + j) * 25 + c + 12) * 2 + (behindShift ? 1 : 0);
        Judged best = known.get(key);
        if (best != null) {
            return best;
        }
        if (i < meant.size() && j < row.size()) {
            int cost = (row.get(j).pitch != meant.get(i).pitch + c ? 2 : 0)
                    + (row.get(j).length != meant.get(i).length ? 1 : 0);
            best = better(best, new Act(0, i, j, cost), bestRest(i + 1, j + 1, c, false, known));
        }
        if (i < meant.size()) {
            best = better(best, new Act(1, i, NONE, 3), bestRest(i + 1, j, c, false, known));
        }
        if (j < row.size()) {
            int cost = j > 0 && row.get(j).equals(row.get(j - 1)) ? 1 : 3;
            best = better(best, new Act(2, NONE, j, cost), bestRest(i, j + 1, c, false, known));
        }
        for (int d = -12; d <= 12 && !behindShift && i < meant.size(); d++) {
            if (d != c) {
                best = better(best, new Act(15 + d, NONE, NONE, 3), bestRest(i, j, d, true, known));
            }
        }
        known.put(key, best);
        return best;
    }

    int judge() {
        judged = bestRest(0, 0, 0, false, new HashMap<>());
        acts.clear();
        for (Judged j = judged; j.first != null; j = j.rest) {
            acts.add(j.first);
        }
        return judged.cost;
    }

    int act(int i, int what) {
        if (what < 0 || what > 3) {
            return BAD;
        }
        if (judged == null) {
            return NOT;
        }
        if (i < 0 || i >= acts.size()) {
            return BAD;
        }
        Act act = acts.get(i);
        return new int[] {act.number, act.meant, act.answer, act.cost}[what];
    }

    // ---- pupils

    int learn(int pupil) {
        if (pupil < 0 || pupil > 5) {
            return BAD;
        }
        if (judged == null) {
            return NOT;
        }
        int shift = 0;
        int slips = 0;
        for (Act act : acts) {
            if (act.number >= 3) {
                shift = act.number - 15;
            }
            if (act.number > 1 || act.meant == 0) {
                continue;
            }
            int size = Math.min(12, Math.abs(meant.get(act.meant).pitch - meant.get(act.meant - 1).pitch));
            asked[pupil][size]++;
            if (act.number == 1 || row.get(act.answer).pitch != meant.get(act.meant).pitch + shift) {
                missed[pupil][size]++;
                slips++;
            }
        }
        return slips;
    }

    int table(int pupil, int size, int what) {
        if (pupil < 0 || pupil > 5 || size < 0 || size > 12 || what < 0 || what > 2) {
            return BAD;
        }
        int a = asked[pupil][size];
        int m = missed[pupil][size];
        return what == 0 ? a : what == 1 ? m : a == 0 ? 6 : 1 + 10 * m / a;
    }

    int drill(int pupil) {
        if (pupil < 0 || pupil > 5) {
            return BAD;
        }
        int best = NONE;
        int[] found = null;
        for (int[] melody : allMelodies()) {
            int sum = 0;
            for (int i = 1; i < melody.length; i++) {
                sum += table(pupil, Math.abs(melody[i] - melody[i - 1]), 2);
            }
            if (sum > best) {
                best = sum;
                found = melody;
            }
        }
        if (found != null) {
            melodyToRow(found);
        }
        return best;
    }

    int count(int what) {
        switch (what) {
            case 0:
                return row.size();
            case 1:
                return meant.size();
            case 2:
                return judged == null ? NONE : acts.size();
            case 3:
                return masks.size();
            case 4:
                return some.size();
            case 5:
                return n;
            default:
                return BAD;
        }
    }
}
