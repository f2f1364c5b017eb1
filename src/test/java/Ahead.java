import java.math.BigInteger;
import java.util.ArrayList;
import java.util.Arrays;
import java.util.HashMap;
import java.util.List;
import java.util.Map;
import java.util.TreeSet;

/**
 * Melodies, drills and rhythms that are too many to be listed. EarSchool looks from each place to the end, with
 * a bound; this goes ahead from the beginning, without one, and keeps the last steps themselves.
 */
final class Ahead {
    /** Where a beginning stands: its last pitch, its last step (null: none yet), and its last steps of 0. */
    private record Place(int pitch, Integer step, int zeros) {
    }

    private record Begun(int weight, List<Integer> pitches) {
        boolean isBetter(Begun other) {
            if (other == null || weight != other.weight) {
                return other == null || weight > other.weight;
            }
            for (int i = 0; i < pitches.size(); i++) {
                int difference = pitches.get(i) - other.pitches.get(i);
                if (difference != 0) {
                    return difference < 0;
                }
            }
            return false;
        }
    }

    int low = 60, high = 72, n = 8, leap = 5, repeats = 1;
    final int[] bits = {2741, 4095, 1, 1023 * 256};
    int many = 2, beat = 48;
    final TreeSet<Integer> some = new TreeSet<>();

    private boolean mayStand(int p, int pitch) {
        int bit = 1 << pitch % 12;
        return pitch >= low && pitch <= high && (bits[0] & bit) != 0
                && (p != 0 || (bits[1] & bit) != 0) && (p != n - 1 || (bits[2] & bit) != 0);
    }

    /** The places to which one step leads from here to position p. */
    private List<Place> steps(Place from, int p) {
        List<Place> places = new ArrayList<>();
        for (int step = -12; step <= 12; step++) {
            boolean leapt = from.step != null && Math.abs(from.step) >= leap;
            boolean back = from.step != null && from.step * step < 0 && Math.abs(step) <= 2;
            int zeros = step == 0 ? from.zeros + 1 : 0;
            if ((bits[3] >> (12 + step) & 1) != 0 && zeros <= repeats && (!leapt || back)
                    && mayStand(p, from.pitch + step)) {
                places.add(new Place(from.pitch + step, step, zeros));
            }
        }
        return places;
    }

    private List<Place> firsts() {
        List<Place> places = new ArrayList<>();
        for (int pitch = low; pitch <= high; pitch++) {
            if (mayStand(0, pitch)) {
                places.add(new Place(pitch, null, 0));
            }
        }
        return places;
    }

    /** How many melodies have a beginning of so many pitches that stands at this place. */
    private BigInteger melodiesFrom(Place place, int length) {
        Map<Place, BigInteger> counts = new HashMap<>();
        counts.put(place, BigInteger.ONE);
        for (int p = length; p < n; p++) {
            Map<Place, BigInteger> next = new HashMap<>();
            for (Map.Entry<Place, BigInteger> entry : counts.entrySet()) {
                for (Place to : steps(entry.getKey(), p)) {
                    next.merge(to, entry.getValue(), BigInteger::add);
                }
            }
            counts = next;
        }
        return counts.values().stream().reduce(BigInteger.ZERO, BigInteger::add);
    }

    BigInteger melodies() {
        BigInteger sum = BigInteger.ZERO;
        for (Place first : firsts()) {
            sum = sum.add(melodiesFrom(first, 1));
        }
        return sum;
    }

    int[] melody(BigInteger k) {
        int[] pitches = new int[n];
        List<Place> places = firsts();
        for (int p = 0; p < n; p++) {
            Place found = null;
            for (int i = 0; found == null; i++) {
                BigInteger here = melodiesFrom(places.get(i), p + 1);
                if (k.compareTo(here) < 0) {
                    found = places.get(i);
                } else {
                    k = k.subtract(here);
                }
            }
            pitches[p] = found.pitch;
            places = steps(found, p + 1);
        }
        return pitches;
    }

    /** How many melodies are ahead of the pitches, which need not be one. */
    BigInteger place(int[] pitches) {
        BigInteger sum = BigInteger.ZERO;
        List<Place> places = firsts();
        for (int p = 0; p < n; p++) {
            Place own = null;
            for (Place place : places) {
                if (place.pitch < pitches[p]) {
                    sum = sum.add(melodiesFrom(place, p + 1));
                } else if (place.pitch == pitches[p]) {
                    own = place;
                }
            }
            if (own == null) {
                return sum;
            }
            places = steps(own, p + 1);
        }
        return sum;
    }

    /** The weight of the drill, and behind it its pitches; null: there is no melody. */
    int[] drill(int[] weights) {
        Map<Place, Begun> best = new HashMap<>();
        for (Place first : firsts()) {
            best.put(first, new Begun(0, List.of(first.pitch)));
        }
        for (int p = 1; p < n; p++) {
            Map<Place, Begun> next = new HashMap<>();
            for (Map.Entry<Place, Begun> entry : best.entrySet()) {
                for (Place to : steps(entry.getKey(), p)) {
                    List<Integer> pitches = new ArrayList<>(entry.getValue().pitches);
                    pitches.add(to.pitch);
                    Begun begun = new Begun(entry.getValue().weight + weights[Math.abs(to.step)], pitches);
                    if (begun.isBetter(next.get(to))) {
                        next.put(to, begun);
                    }
                }
            }
            best = next;
        }
        Begun found = null;
        for (Begun begun : best.values()) {
            found = begun.isBetter(found) ? begun : found;
        }
        if (found == null) {
            return null;
        }
        int[] answer = new int[n + 1];
        answer[0] = found.weight;
        for (int i = 0; i < n; i++) {
            answer[i + 1] = found.pitches.get(i);
        }
        return answer;
    }

    /** How many rhythms have a beginning of so many lengths that ends at this time. */
    private BigInteger rhythmsFrom(int time, int length) {
        Map<Integer, BigInteger> counts = new HashMap<>();
        counts.put(time, BigInteger.ONE);
        BigInteger sum = BigInteger.ZERO;
        for (int notes = length; notes <= 24; notes++) {
            BigInteger ended = counts.remove(many * beat);
            sum = ended == null ? sum : sum.add(ended);
            Map<Integer, BigInteger> next = new HashMap<>();
            for (Map.Entry<Integer, BigInteger> entry : counts.entrySet()) {
                for (int one : some) {
                    if (isInOneBar(entry.getKey(), one)) {
                        next.merge(entry.getKey() + one, entry.getValue(), BigInteger::add);
                    }
                }
            }
            counts = next;
        }
        return sum;
    }

    private boolean isInOneBar(int time, int length) {
        return time / beat == (time + length - 1) / beat;
    }

    BigInteger rhythms() {
        return rhythmsFrom(0, 0);
    }

    int[] rhythm(BigInteger k) {
        List<Integer> lengths = new ArrayList<>();
        int time = 0;
        while (time < many * beat) {
            for (int one : some) {
                BigInteger here = isInOneBar(time, one) ? rhythmsFrom(time + one, lengths.size() + 1) : BigInteger.ZERO;
                if (k.compareTo(here) < 0) {
                    lengths.add(one);
                    time += one;
                    break;
                }
                k = k.subtract(here);
            }
        }
        return lengths.stream().mapToInt(Integer::intValue).toArray();
    }

    @Override
    public String toString() {
        return low + ".." + high + " n " + n + " bits " + Arrays.toString(bits) + " leap " + leap + " repeats "
                + repeats + " bars " + many + " beat " + beat + " some " + some;
    }
}
