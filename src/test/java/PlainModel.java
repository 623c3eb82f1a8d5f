import java.math.BigInteger;
import java.util.ArrayList;
import java.util.Arrays;
import java.util.List;

/** The document written a second time, by trying everything, to hold the class against. */
final class PlainModel {
    private static final int NONE = -1, BAD = -2, NOT = -3, FULL = -4;

    private record Picture(int year, int person, int size, int drawer) { }

    private record Burning(int year, int picture) { }

    private record Sighting(int year, int person, int solid) { }

    /** Pictures that are no told ones, taken behind a year's pictures. */
    private record Extra(int year, int person, int size) { }

    /** How things stand behind a year. */
    private static final class State {
        int[] solid;
        int[][] took = new int[12][2];
        boolean[] taken = new boolean[12];
        boolean[] burnt = new boolean[12];

        boolean there(int picture) {
            return taken[picture] && !burnt[picture];
        }
    }

    private String text = "";
    private final List<Picture> pictures = new ArrayList<>();
    private final List<Burning> burnings = new ArrayList<>();
    private final List<Sighting> sightings = new ArrayList<>();
    private final int[] wants = {NONE, NONE, NONE, NONE};
    private final Object[] sheets = new Object[4];
    private int faint = 10;
    private int finding;

    private int persons() {
        return fault() != NONE || text.isEmpty() ? 0 : text.split(";").length;
    }

    private boolean isPerson(int person) {
        return person >= 0 && person < persons();
    }

    private int first(int person) {
        return Integer.parseInt(text.split(";")[person].substring(0, 2));
    }

    private int twin(int person) {
        int twin = "abcdefgh".indexOf(text.split(";")[person].charAt(2));
        return isPerson(twin) && twin != person ? twin : NONE;
    }

    private static boolean in(int v, int least, int most) {
        return v >= least && v <= most;
    }

    private State state(int lastYear) {
        return state(lastYear, pictures, burnings, List.of());
    }

    private State state(int lastYear, List<Picture> shots, List<Burning> fires, List<Extra> extras) {
        State st = new State();
        st.solid = new int[persons()];
        for (int p = 0; p < st.solid.length; p++) {
            st.solid[p] = first(p);
        }
        for (int year = 0; year <= lastYear; year++) {
            for (int i = 0; i < shots.size(); i++) {
                Picture shot = shots.get(i);
                if (shot.year == year && isPerson(shot.person) && shot.size > 0) {
                    st.taken[i] = true;
                    st.took[i] = take(st, shot.person, shot.size);
                }
            }
            for (Extra extra : extras) {
                if (extra.year == year) {
                    take(st, extra.person, extra.size);
                }
            }
            for (Burning fire : fires) {
                if (fire.year == year && st.there(fire.picture)) {
                    int person = shots.get(fire.picture).person;
                    st.burnt[fire.picture] = true;
                    st.solid[person] += st.took[fire.picture][0];
                    if (twin(person) != NONE) {
                        st.solid[twin(person)] += st.took[fire.picture][1];
                    }
                }
            }
        }
        return st;
    }

    private int[] take(State st, int person, int size) {
        int[] took = new int[2];
        int[] whom = {person, twin(person)};
        int[] much = {size, size / 2};
        for (int k = 0; k < 2; k++) {
            while (whom[k] != NONE && took[k] < much[k] && st.solid[whom[k]] > 0) {
                st.solid[whom[k]]--;
                took[k]++;
            }
        }
        return took;
    }

    int type(int b) {
        if (!in(b, 0, 255)) return BAD;
        if (text.length() == 31) return FULL;
        text += (char) b;
        return text.length();
    }

    int wipe() {
        int had = text.length();
        text = "";
        return had;
    }

    int undo() {
        if (text.isEmpty()) return NOT;
        text = text.substring(0, text.length() - 1);
        return text.length();
    }

    /** The longest beginning that some well text goes on from is found by trying endings. */
    int fault() {
        if (isWell(text)) return NONE;
        for (int n = text.length(); n > 0; n--) {
            if (canGoOn(text.substring(0, n))) return n;
        }
        return 0;
    }

    private static boolean isWell(String t) {
        return t.isEmpty() || t.matches("(?s)([0-9][0-9][.a-h];){0,7}[0-9][0-9][.a-h]");
    }

    private static boolean canGoOn(String t) {
        for (String end : new String[] {"", "00.", "0.", "."}) {
            if (isWell(t + end)) return true;
        }
        return false;
    }

    int person(int person, int what) {
        if (!isPerson(person) || !in(what, 0, 1)) return BAD;
        return what == 0 ? first(person) : twin(person);
    }

    int picture(int year, int person, int size, int drawer) {
        if (!in(year, 0, 29) || !in(person, 0, 7) || !in(size, 1, 9) || !in(drawer, 0, 3)) return BAD;
        if (pictures.size() == 12) return FULL;
        pictures.add(new Picture(year, person, size, drawer));
        return pictures.size();
    }

    int burn(int year, int picture) {
        if (!in(year, 0, 29) || !in(picture, 0, 11)) return BAD;
        if (burnings.size() == 12) return FULL;
        burnings.add(new Burning(year, picture));
        return burnings.size();
    }

    int back(int what) {
        if (!in(what, 0, 1)) return BAD;
        List<?> list = what == 0 ? pictures : burnings;
        if (list.isEmpty()) return NOT;
        list.remove(list.size() - 1);
        return list.size();
    }

    int faint(int v) {
        if (!in(v, 0, 99)) return BAD;
        int was = faint;
        faint = v;
        return was;
    }

    int want(int drawer, int person) {
        if (!in(drawer, 0, 3) || !in(person, NONE, 7)) return BAD;
        int was = wants[drawer];
        wants[drawer] = person;
        return was;
    }

    int solid(int year, int person) {
        if (!in(year, 0, 29) || !isPerson(person)) return BAD;
        return state(year).solid[person];
    }

    int behind(int year, int what) {
        if (!in(year, 0, 29) || !in(what, 0, 2)) return BAD;
        State st = state(year);
        int answer = 0;
        if (what == 0) {
            for (int p = 0; p < persons(); p++) answer += st.solid[p] < faint ? 1 << p : 0;
        } else if (what == 1) {
            for (int i = 0; i < 12; i++) answer += st.there(i) ? 1 << i : 0;
        } else {
            for (int p = 0; p < persons(); p++) answer += st.solid[p];
            for (int d = 0; d < 4; d++) answer += drawer(year, d);
        }
        return answer;
    }

    int drawer(int year, int drawer) {
        if (!in(year, 0, 29) || !in(drawer, 0, 3)) return BAD;
        State st = state(year);
        int sum = 0;
        for (int i = 0; i < pictures.size(); i++) {
            if (st.there(i) && pictures.get(i).drawer == drawer) sum += st.took[i][0] + st.took[i][1];
        }
        return sum;
    }

    int took(int picture, int what) {
        if (!in(picture, 0, pictures.size() - 1) || !in(what, 0, 1)) return BAD;
        return state(29).took[picture][what];
    }

    int unseen(int what) {
        if (!in(what, 0, 1)) return BAD;
        for (int year = 0; year < 30; year++) {
            State st = state(year);
            for (int p = 0; p < persons(); p++) {
                if (st.solid[p] < faint && first(p) >= faint) return what == 0 ? year : p;
            }
        }
        return NONE;
    }

    int whole(int year, int person, int solid, int spared, int what) {
        if (!in(year, 0, 29) || !isPerson(person) || !in(solid, 0, 99) || !in(spared, NONE, 3) || !in(what, 0, 1)) {
            return BAD;
        }
        State st = state(year);
        int best = NONE;
        int bestMany = 0;
        int bestLoss = 0;
        for (int set = 0; set < 1 << pictures.size(); set++) {
            int many = Integer.bitCount(set);
            if (best != NONE && many > bestMany) continue;
            int reached = st.solid[person];
            int loss = 0;
            boolean may = true;
            for (int i = 0; i < pictures.size(); i++) {
                if ((set >> i & 1) == 0) continue;
                Picture shot = pictures.get(i);
                may &= st.there(i);
                if (shot.person == person) reached += st.took[i][0];
                else if (isPerson(shot.person) && twin(shot.person) == person) reached += st.took[i][1];
                if (shot.drawer != spared) loss += st.took[i][0] + st.took[i][1];
            }
            if (may && reached >= solid && (best == NONE || many < bestMany || loss < bestLoss)) {
                best = set;
                bestMany = many;
                bestLoss = loss;
            }
        }
        return best == NONE ? NONE : what == 0 ? best : bestLoss;
    }

    int feast(int year, int size) {
        if (!in(year, 0, 29) || !in(size, 1, 9)) return BAD;
        int sum = 0;
        for (int left : state(year).solid) {
            for (int rest = left - size; rest >= faint; rest -= size) sum++;
        }
        return sum;
    }

    int spy(int year, int person, int size) {
        if (!in(year, 0, 29) || !isPerson(person) || !in(size, 1, 9)) return BAD;
        List<Extra> extras = new ArrayList<>();
        for (int k = 0; k <= 99; k++) {
            if (state(year, pictures, burnings, extras).solid[person] < faint) return k;
            extras.add(new Extra(year, person, size));
        }
        return NONE;
    }

    int swap(int year, int what) {
        if (!in(year, 0, 29) || !in(what, 0, 2)) return BAD;
        State st = state(year);
        int[] where = new int[pictures.size()];
        for (int i = 0; i < where.length; i++) where[i] = pictures.get(i).drawer;
        for (int swaps = 0; ; swaps++) {
            int[] pair = leastSwap(st, where);
            if (what < 2) return pair == null ? NONE : pair[what];
            if (pair == null) return swaps;
            exchange(where, pair[0], pair[1]);
        }
    }

    private int[] leastSwap(State st, int[] where) {
        for (int i = 0; i < where.length; i++) {
            for (int j = i + 1; j < where.length; j++) {
                if (!st.there(i) || !st.there(j) || where[i] == where[j]) continue;
                int one = joy(st, where, where[i]);
                int other = joy(st, where, where[j]);
                int[] changed = where.clone();
                exchange(changed, i, j);
                if (joy(st, changed, where[i]) > one && joy(st, changed, where[j]) > other) return new int[] {i, j};
            }
        }
        return null;
    }

    private int joy(State st, int[] where, int drawer) {
        int joy = 0;
        for (int i = 0; i < where.length; i++) {
            if (st.there(i) && where[i] == drawer && pictures.get(i).person == wants[drawer]) joy++;
        }
        return joy;
    }

    private static void exchange(int[] row, int i, int j) {
        int was = row[i];
        row[i] = row[j];
        row[j] = was;
    }

    int seen(int year, int person, int solid) {
        if (!in(year, 0, 29) || !in(person, 0, 7) || !in(solid, 0, 99)) return BAD;
        if (sightings.size() == 8) return FULL;
        sightings.add(new Sighting(year, person, solid));
        return sightings.size();
    }

    int forget() {
        int had = sightings.size();
        sightings.clear();
        return had;
    }

    int read(int s) {
        if (!in(s, 0, 3)) return BAD;
        if (sheets[s] == null) return found(1);
        int k = 0;
        while (3 * k + 2 < length(sheets[s])
                && seen(item(sheets[s], 3 * k), item(sheets[s], 3 * k + 1), item(sheets[s], 3 * k + 2)) > 0) {
            k++;
        }
        return k;
    }

    private boolean comesOut(int picture, int size) {
        List<Picture> other = new ArrayList<>(pictures);
        Picture shot = pictures.get(picture);
        other.set(picture, new Picture(shot.year, shot.person, size, shot.drawer));
        for (Sighting s : sightings) {
            if (!isPerson(s.person)) return false;
            if (state(s.year, other, burnings, List.of()).solid[s.person] != s.solid) return false;
        }
        return true;
    }

    int never() {
        int bits = 0;
        for (int i = 0; i < pictures.size(); i++) bits += comesOut(i, 0) ? 1 << i : 0;
        return bits;
    }

    int sizes(int picture) {
        if (!in(picture, 0, pictures.size() - 1)) return BAD;
        int bits = 0;
        for (int size = 1; size <= 9; size++) bits += comesOut(picture, size) ? 1 << size - 1 : 0;
        return bits;
    }

    int town(int solid, int tourists, int grows) {
        if (!in(solid, 1, 999) || !in(tourists, 0, 999) || !in(grows, 0, 99)) return BAD;
        int left = solid;
        for (int year = 0; year <= 99; year++) {
            for (int k = 10; k <= tourists; k += 10) left = left == 0 ? 0 : left - 1;
            if (left == 0) return year;
            for (int k = 0; k < grows && left < solid; k++) left++;
        }
        return NONE;
    }

    int toll(int solid, int grows) {
        if (!in(solid, 1, 999) || !in(grows, 0, 99)) return BAD;
        int most = BAD;
        for (int tourists = 0; tourists <= 999; tourists++) {
            if (town(solid, tourists, grows) == NONE) most = tourists;
        }
        return most;
    }

    long shots(int c, int year, int n, int person, int size, int what) {
        if (!in(c, 0, 16) || !in(year, 0, 29) || !in(n, 1, 10) || !isPerson(person) || !in(size, 1, 9)
                || !in(what, 0, 1)) {
            return Long.MIN_VALUE + 2;
        }
        int solid = state(year).solid[person];
        BigInteger above = BigInteger.ZERO;
        for (int course = 0; course < 1 << n; course++) {
            BigInteger weight = BigInteger.ONE;
            int left = solid;
            for (int k = 0; k < n; k++) {
                boolean taken = (course >> k & 1) == 1;
                weight = weight.multiply(BigInteger.valueOf(taken ? c : 16 - c));
                left = taken ? Math.max(0, left - size) : left;
            }
            if (left < faint) above = above.add(weight);
        }
        BigInteger below = BigInteger.valueOf(16).pow(n);
        BigInteger common = above.gcd(below);
        return (what == 0 ? above : below).divide(common).longValueExact();
    }

    int plates(int seed, int year, int person) {
        if (!in(year, 0, 29) || !isPerson(person)) return BAD;
        List<Extra> extras = new ArrayList<>();
        BigInteger s = BigInteger.valueOf(seed);
        BigInteger two32 = BigInteger.ONE.shiftLeft(32);
        for (int y = 0; y <= year; y++) {
            int[] lots = new int[2];
            for (int k = 0; k < 2; k++) {
                s = s.multiply(BigInteger.valueOf(1103515245)).add(BigInteger.valueOf(12345)).mod(two32);
                lots[k] = s.shiftRight(16).mod(BigInteger.valueOf(k == 0 ? persons() : 9)).intValueExact();
            }
            extras.add(new Extra(y, lots[0], lots[1] + 1));
        }
        return state(year, pictures, burnings, extras).solid[person];
    }

    private int found(int number) {
        finding = number;
        return -10 - number;
    }

    private static int form(Object row) {
        return row instanceof byte[] ? 0 : row instanceof short[] ? 1 : 2;
    }

    private static int length(Object row) {
        return java.lang.reflect.Array.getLength(row);
    }

    private static int item(Object row, int i) {
        return java.lang.reflect.Array.getInt(row, i);
    }

    private static void put(Object row, int i, int v) {
        if (row instanceof byte[] bytes) bytes[i] = (byte) v;
        if (row instanceof short[] shorts) shorts[i] = (short) v;
        if (row instanceof int[] ints) ints[i] = v;
    }

    int sheet(int s, int form, int n) {
        if (!in(s, 0, 3) || !in(form, 0, 2) || n > 60) return BAD;
        if (n < 0) return found(5);
        sheets[s] = form == 0 ? new byte[n] : form == 1 ? new short[n] : new int[n];
        return n;
    }

    int lose(int s) {
        if (!in(s, 0, 3)) return BAD;
        if (sheets[s] == null) return found(1);
        int had = length(sheets[s]);
        sheets[s] = null;
        return had;
    }

    private int trouble(int s, int form, int i) {
        if (sheets[s] == null) return 1;
        if (form(sheets[s]) != form) return 3;
        return in(i, 0, length(sheets[s]) - 1) ? 0 : 2;
    }

    int lay(int s, int form, int i, int v) {
        if (!in(s, 0, 3) || !in(form, 0, 2)) return BAD;
        if (trouble(s, form, i) != 0) return found(trouble(s, form, i));
        put(sheets[s], i, v);
        return 1;
    }

    int get(int s, int form, int i) {
        if (!in(s, 0, 3) || !in(form, 0, 2)) return Integer.MIN_VALUE;
        if (trouble(s, form, i) != 0) {
            found(trouble(s, form, i));
            return Integer.MIN_VALUE;
        }
        return item(sheets[s], i);
    }

    int copy(int s, int i, int t, int j, int n) {
        if (!in(s, 0, 3) || !in(t, 0, 3)) return BAD;
        if (sheets[s] == null || sheets[t] == null) return found(1);
        if (form(sheets[s]) != form(sheets[t])) return found(4);
        if (i < 0 || j < 0 || n < 0 || (long) i + n > length(sheets[s]) || (long) j + n > length(sheets[t])) {
            return found(2);
        }
        int[] were = new int[n];
        for (int k = 0; k < n; k++) were[k] = item(sheets[s], i + k);
        for (int k = 0; k < n; k++) put(sheets[t], j + k, were[k]);
        return 1;
    }

    int write(int year, int s) {
        if (!in(year, 0, 29) || !in(s, 0, 3)) return BAD;
        if (sheets[s] == null) return found(1);
        int[] solid = state(year).solid;
        int k = 0;
        for (; k < solid.length && k < length(sheets[s]); k++) put(sheets[s], k, solid[k]);
        return k;
    }

    int count(int what) {
        if (!in(what, 0, 8)) return BAD;
        int all = 0;
        int twins = 0;
        for (int p = 0; p < persons(); p++) {
            all += first(p);
            twins += twin(p) == NONE ? 0 : 1;
        }
        int[] counts = {persons(), text.length(), pictures.size(), burnings.size(), sightings.size(), faint, all, twins,
            finding};
        return counts[what];
    }

    long digest() {
        List<Long> each = new ArrayList<>();
        for (int k = 0; k <= 7; k++) each.add((long) count(k));
        each.add((long) fault());
        for (int p = 0; p < persons(); p++) {
            for (long v : new long[] {person(p, 0), person(p, 1), solid(5, p), solid(29, p), whole(9, p, 50, NONE, 0),
                whole(9, p, 50, NONE, 1), spy(9, p, 3), shots(5, 9, 4, p, 4, 0), shots(5, 9, 4, p, 4, 1),
                plates(7, 20, p)}) {
                each.add(v);
            }
        }
        for (int i = 0; i < pictures.size(); i++) {
            each.addAll(Arrays.asList((long) took(i, 0), (long) took(i, 1), (long) sizes(i)));
        }
        for (int year : new int[] {0, 5, 29}) {
            for (int k = 0; k <= 2; k++) each.add((long) behind(year, k));
            for (int d = 0; d < 4; d++) each.add((long) drawer(year, d));
            each.add((long) feast(year, 2));
            for (int k = 0; k <= 2; k++) each.add((long) swap(year, k));
        }
        for (long v : new long[] {unseen(0), unseen(1), never(), town(99, 55, 2), toll(99, 2)}) each.add(v);
        long h = 17;
        for (long v : each) h = 31 * h + v;
        return h;
    }
}
