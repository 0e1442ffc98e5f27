import java.util.ArrayDeque;
import java.util.ArrayList;
import java.util.Arrays;
import java.util.Deque;
import java.util.List;
import java.util.function.IntPredicate;
import java.util.function.IntUnaryOperator;
import java.util.regex.Matcher;
import java.util.regex.Pattern;

/**
 * The document once more, by other means: minute by minute where the class reckons, all sets where it stops early,
 * a regular expression where it reads. Slow, and for tests alone.
 */
final class Model {
    private static final Pattern TEXT = Pattern.compile(
            "(?:k[0-9]{1,2};|s[0-9][0-9],[0-9]{1,2}b?;|e[0-9][0-9]@[0-9]{1,4},[0-9];|m[0-9]{1,2},[0-9];)+");
    private static final int LAST = 2879;
    private static final int[] LEAST = {0, 0, 10, 0};
    private static final int[] MOST = {1439, 4, 720, 9};

    /** A street: a, b, minutes, broad, must, shut, bit. An errand: from, to, at, worth. */
    private static final class State {
        int corners = 4;
        List<int[]> streets = new ArrayList<>();
        List<int[]> errands = new ArrayList<>();
        int[] settings = {720, 0, 240, 0};
        List<Integer> row = new ArrayList<>();

        State copy() {
            State other = new State();
            other.corners = corners;
            streets.forEach(s -> other.streets.add(s.clone()));
            errands.forEach(e -> other.errands.add(e.clone()));
            other.settings = settings.clone();
            other.row = new ArrayList<>(row);
            return other;
        }
    }

    private record Stay(int corner, int comes, int goes) { }

    private record Trip(List<Integer> streets, List<Stay> stays) { }

    private State state = new State();
    private State image;
    private String tape = "";
    private final int[] refusals = new int[7];
    private int inMind;

    private int refuse(int number) {
        refusals[-number]++;
        return number;
    }

    int feed(int n, long bytes) {
        if (n < 1) {
            return refuse(-4);
        }
        if (n > 8 || tape.length() + n > 64) {
            return refuse(-6);
        }
        StringBuilder more = new StringBuilder(tape);
        for (int i = 0; i < n; i++) {
            more.append((char) (bytes >> 8 * i & 255));
        }
        tape = more.toString();
        return tape.length();
    }

    int town() {
        String text = tape;
        tape = "";
        for (int end = 1; end <= text.length(); end++) {
            Matcher head = TEXT.matcher(text.substring(0, end));
            if (!head.matches() && !head.hitEnd()) {
                return -1000 - (end - 1);
            }
        }
        if (!TEXT.matcher(text).matches()) {
            return -1000 - text.length();
        }
        State next = state.copy();
        int place = 0;
        String[] statements = text.split(";");
        for (String statement : statements) {
            if (!tell(next, statement)) {
                return -2000 - place;
            }
            place += statement.length() + 1;
        }
        state = next;
        return statements.length;
    }

    private static boolean tell(State town, String statement) {
        String[] parts = statement.substring(1).split("[,@]");
        char letter = statement.charAt(0);
        if (letter == 'k') {
            int many = Integer.parseInt(parts[0]);
            boolean fewer = town.streets.stream().anyMatch(s -> s[0] >= many || s[1] >= many)
                    || town.errands.stream().anyMatch(e -> e[0] >= many || e[1] >= many);
            if (many < 2 || many > 10 || fewer) {
                return false;
            }
            town.corners = many;
            return true;
        }
        if (letter == 'm') {
            int street = Integer.parseInt(parts[0]);
            int must = Integer.parseInt(parts[1]);
            if (street >= town.streets.size() || must > 2) {
                return false;
            }
            town.streets.get(street)[4] = must;
            return true;
        }
        int one = parts[0].charAt(0) - '0';
        int other = parts[0].charAt(1) - '0';
        if (one >= town.corners || other >= town.corners || one == other) {
            return false;
        }
        if (letter == 's') {
            boolean broad = parts[1].endsWith("b");
            int minutes = Integer.parseInt(parts[1].replace("b", ""));
            town.streets.add(new int[] {one, other, minutes, broad ? 1 : 0, 2, 0, 0});
            return minutes >= 1 && minutes <= 60 && town.streets.size() <= 14;
        }
        int at = Integer.parseInt(parts[1]);
        int worth = Integer.parseInt(parts[2]);
        town.errands.add(new int[] {one, other, at, worth});
        return at <= 1439 && worth >= 1 && town.errands.size() <= 8;
    }

    int street(int street, int what) {
        if (street < 0 || street >= state.streets.size()) {
            return refuse(-1);
        }
        return what < 0 || what > 5 ? refuse(-2) : state.streets.get(street)[what];
    }

    int errand(int errand, int what) {
        if (errand < 0 || errand >= state.errands.size()) {
            return refuse(-1);
        }
        return what < 0 || what > 3 ? refuse(-2) : state.errands.get(errand)[what];
    }

    int set(int what, int v) {
        if (what < 0 || what > 3) {
            return refuse(-2);
        }
        if (v < LEAST[what] || v > MOST[what]) {
            return refuse(v < LEAST[what] ? -4 : -6);
        }
        int before = state.settings[what];
        state.settings[what] = v;
        return before;
    }

    private int pointing() {
        int bits = 0;
        for (int s = 0; s < state.streets.size(); s++) {
            bits |= state.streets.get(s)[6] << s;
        }
        return bits;
    }

    private void pointAs(int bits) {
        for (int s = 0; s < state.streets.size(); s++) {
            state.streets.get(s)[6] = bits >> s & 1;
        }
    }

    int point(int bits) {
        if (bits < 0 || bits >> state.streets.size() != 0) {
            return refuse(-1);
        }
        int before = pointing();
        pointAs(bits);
        return before;
    }

    int shut(int street, boolean is) {
        if (street < 0 || street >= state.streets.size()) {
            return refuse(-1);
        }
        int before = state.streets.get(street)[5];
        state.streets.get(street)[5] = is ? 1 : 0;
        return before == (is ? 1 : 0) ? 0 : 1;
    }

    private int wayOf(int street, int minute) {
        int[] s = state.streets.get(street);
        int rule = state.settings[1];
        if (s[5] == 1) {
            return 3;
        }
        if ((inMind >> street & 1) == 1 || rule == 1 && s[3] == 1) {
            return 2;
        }
        int bit = s[6];
        if (rule == 3 && state.settings[3] % 2 == 1) {
            bit = 1 - bit;
        }
        for (int turn = state.settings[0]; turn <= minute && rule != 4; turn += state.settings[2]) {
            bit = 1 - bit;
            if (rule != 2) {
                break;
            }
        }
        return bit;
    }

    private boolean goes(int street, int from, int minute) {
        int[] s = state.streets.get(street);
        int way = wayOf(street, minute);
        return from == s[0] && (way == 0 || way == 2) || from == s[1] && (way == 1 || way == 2);
    }

    private int other(int street, int corner) {
        int[] s = state.streets.get(street);
        return s[0] == corner ? s[1] : s[0];
    }

    int way(int street, int minute) {
        if (street < 0 || street >= state.streets.size()) {
            return refuse(-1);
        }
        int refusal = ofMinute(minute);
        return refusal != 0 ? refuse(refusal) : wayOf(street, minute);
    }

    private static int ofMinute(int minute) {
        return minute < 0 ? -4 : minute > LAST ? -6 : 0;
    }

    private int ofWay(int from, int to, int minute) {
        boolean both = from >= 0 && from < state.corners && to >= 0 && to < state.corners;
        return both ? ofMinute(minute) : -1;
    }

    /** Minute by minute: who is at a corner stays there and sends one along each street that lets one in. */
    private int[] soonestFrom(int from, int minute) {
        int[] soonest = new int[state.corners];
        Arrays.fill(soonest, -9);
        boolean[][] comes = new boolean[LAST + 62][state.corners];
        comes[minute][from] = true;
        for (int now = minute; now < comes.length; now++) {
            for (int c = 0; c < state.corners; c++) {
                if (comes[now][c] && soonest[c] == -9) {
                    soonest[c] = now;
                }
            }
            for (int s = 0; s < state.streets.size() && now <= LAST; s++) {
                for (int end = 0; end < 2; end++) {
                    int corner = state.streets.get(s)[end];
                    if (soonest[corner] != -9 && goes(s, corner, now)) {
                        comes[now + state.streets.get(s)[2]][other(s, corner)] = true;
                    }
                }
            }
        }
        return soonest;
    }

    private Trip trip(int from, int to, int minute) {
        int[] soonest = soonestFrom(from, minute);
        if (soonest[to] == -9) {
            return null;
        }
        List<Integer> streets = new ArrayList<>();
        List<Stay> stays = new ArrayList<>();
        stays.add(new Stay(to, soonest[to], soonest[to]));
        int corner = to;
        while (corner != from) {
            boolean found = false;
            for (int s = 0; s < state.streets.size() && !found; s++) {
                int[] street = state.streets.get(s);
                if (street[0] != corner && street[1] != corner || soonest[other(s, corner)] == -9) {
                    continue;
                }
                int before = other(s, corner);
                int entry = soonest[before];
                while (entry <= LAST && !goes(s, before, entry)) {
                    entry++;
                }
                if (entry <= LAST && entry + street[2] == soonest[corner]) {
                    streets.add(0, s);
                    stays.add(0, new Stay(before, soonest[before], entry));
                    corner = before;
                    found = true;
                }
            }
            if (!found) {
                throw new IllegalStateException("no street leads back");
            }
        }
        return new Trip(streets, stays);
    }

    int soonest(int from, int to, int minute) {
        int refusal = ofWay(from, to, minute);
        return refusal != 0 ? refuse(refusal) : soonestFrom(from, minute)[to];
    }

    int waited(int from, int to, int minute) {
        int refusal = ofWay(from, to, minute);
        if (refusal != 0) {
            return refuse(refusal);
        }
        Trip trip = trip(from, to, minute);
        if (trip == null) {
            return -9;
        }
        int gone = trip.streets().stream().mapToInt(s -> state.streets.get(s)[2]).sum();
        return soonestFrom(from, minute)[to] - minute - gone;
    }

    int road(int from, int to, int minute, int i) {
        int refusal = ofWay(from, to, minute);
        if (refusal == -1) {
            return refuse(-1);
        }
        if (minute < 0 || i < -1) {
            return refuse(-4);
        }
        if (refusal != 0) {
            return refuse(refusal);
        }
        Trip trip = trip(from, to, minute);
        if (trip == null || i >= trip.streets().size()) {
            return -9;
        }
        return i == -1 ? trip.streets().size() : trip.streets().get(i);
    }

    /** Least minutes between corners with the streets as at one minute; -9 what can not be come to. */
    private int[][] frozen(int minute) {
        int[][] least = new int[state.corners][state.corners];
        for (int from = 0; from < state.corners; from++) {
            Arrays.fill(least[from], -9);
            least[from][from] = 0;
            Deque<Integer> open = new ArrayDeque<>(List.of(from));
            while (!open.isEmpty()) {
                int corner = open.poll();
                for (int s = 0; s < state.streets.size(); s++) {
                    if (!goes(s, corner, minute)) {
                        continue;
                    }
                    int there = other(s, corner);
                    int comes = least[from][corner] + state.streets.get(s)[2];
                    if (least[from][there] == -9 || comes < least[from][there]) {
                        least[from][there] = comes;
                        open.add(there);
                    }
                }
            }
        }
        return least;
    }

    private int apartNow(int minute) {
        return (int) Arrays.stream(frozen(minute)).flatMapToInt(Arrays::stream).filter(m -> m == -9).count();
    }

    private int longestNow(int minute) {
        return apartNow(minute) > 0 ? -9
                : Arrays.stream(frozen(minute)).flatMapToInt(Arrays::stream).max().orElse(-9);
    }

    int all(int minute) {
        int refusal = ofMinute(minute);
        return refusal != 0 ? refuse(refusal) : apartNow(minute) == 0 ? 1 : 0;
    }

    int longest(int minute) {
        int refusal = ofMinute(minute);
        return refusal != 0 ? refuse(refusal) : longestNow(minute);
    }

    int apart(int minute) {
        int refusal = ofMinute(minute);
        return refusal != 0 ? refuse(refusal) : apartNow(minute);
    }

    /** By trying all pointings, not by bridges. */
    int can() {
        State before = state;
        state = before.copy();
        state.settings = new int[] {720, 0, 240, 0};
        state.streets.forEach(s -> s[5] = 0);
        int answer = 0;
        for (int bits = 0; bits < 1 << state.streets.size() && answer == 0; bits++) {
            pointAs(bits);
            answer = apartNow(0) == 0 ? 1 : 0;
        }
        state = before;
        return answer;
    }

    int bridges() {
        int ones = 0;
        for (int without = 0; without < state.streets.size(); without++) {
            int[] group = new int[state.corners];
            Arrays.setAll(group, c -> c);
            for (int s = 0; s < state.streets.size(); s++) {
                if (s != without) {
                    int gone = group[state.streets.get(s)[0]];
                    int stays = group[state.streets.get(s)[1]];
                    Arrays.setAll(group, c -> group[c] == gone ? stays : group[c]);
                }
            }
            int[] street = state.streets.get(without);
            ones |= group[street[0]] == group[street[1]] ? 0 : 1 << without;
        }
        return ones;
    }

    int walk() {
        int[] pointed = new int[state.streets.size()];
        Arrays.fill(pointed, -1);
        boolean[] seen = new boolean[state.corners];
        walkFrom(0, pointed, seen);
        int bits = 0;
        for (int s = 0; s < pointed.length; s++) {
            bits |= pointed[s] == 1 ? 1 << s : 0;
        }
        return bits;
    }

    private void walkFrom(int corner, int[] pointed, boolean[] seen) {
        seen[corner] = true;
        for (int s = 0; s < pointed.length; s++) {
            int[] street = state.streets.get(s);
            if (pointed[s] != -1 || street[0] != corner && street[1] != corner) {
                continue;
            }
            pointed[s] = street[0] == corner ? 0 : 1;
            if (!seen[other(s, corner)]) {
                walkFrom(other(s, corner), pointed, seen);
            }
        }
    }

    private int costOf(int[] errand, int from, int at) {
        int soonest = soonestFrom(from, at)[errand[1]];
        return errand[3] * (soonest == -9 ? 3000 : soonest - at);
    }

    int cost() {
        return state.errands.stream().mapToInt(e -> costOf(e, e[0], e[2])).sum();
    }

    private boolean keepsMusts() {
        return state.streets.stream().allMatch(s -> s[4] == 2 || s[4] == s[6]);
    }

    private int bestPointing(java.util.function.IntSupplier measure) {
        int before = pointing();
        int found = -9;
        int least = 0;
        for (int bits = 0; bits < 1 << state.streets.size(); bits++) {
            pointAs(bits);
            if (!keepsMusts()) {
                continue;
            }
            int much = measure.getAsInt();
            if (much != -9 && (found == -9 || much < least)) {
                found = bits;
                least = much;
            }
        }
        pointAs(before);
        return found;
    }

    private int ofTrying() {
        return state.streets.size() > 10 ? -6 : state.streets.isEmpty() ? -3 : 0;
    }

    int best() {
        return ofTrying() != 0 ? refuse(ofTrying()) : bestPointing(this::cost);
    }

    int far() {
        return ofTrying() != 0 ? refuse(ofTrying()) : bestPointing(() -> longestNow(0));
    }

    int turning() {
        int before = pointing();
        for (int round = 0; round < 20; round++) {
            boolean turned = false;
            for (int[] s : state.streets) {
                int cost = cost();
                s[6] = 1 - s[6];
                if (s[4] == 1 - s[6] || cost() >= cost) {
                    s[6] = 1 - s[6];
                } else {
                    turned = true;
                }
            }
            if (!turned) {
                break;
            }
        }
        int answer = pointing();
        pointAs(before);
        return answer;
    }

    private int fewest(IntPredicate does) {
        int found = -9;
        for (int ones = 0; ones < 1 << state.streets.size(); ones++) {
            if ((found == -9 || Integer.bitCount(ones) < Integer.bitCount(found)) && does.test(ones)) {
                found = ones;
            }
        }
        inMind = 0;
        return found;
    }

    int bothWays(int cost) {
        if (cost < 0) {
            return refuse(-4);
        }
        if (state.streets.size() > 10) {
            return refuse(-6);
        }
        return fewest(ones -> {
            inMind = ones;
            return cost() <= cost;
        });
    }

    int corner(int corner) {
        if (corner < 0 || corner >= state.corners) {
            return refuse(-1);
        }
        if (state.row.size() == 10) {
            return refuse(-6);
        }
        state.row.add(corner);
        return state.row.size();
    }

    int procession() {
        if (state.row.size() < 2) {
            return refuse(-3);
        }
        List<Integer> row = state.row;
        state.row = new ArrayList<>();
        int sum = 0;
        for (int i = 0; i < row.size(); i++) {
            int from = row.get(i);
            int to = row.get((i + 1) % row.size());
            int least = 99;
            for (int s = 0; s < state.streets.size(); s++) {
                if (goes(s, from, 0) && other(s, from) == to) {
                    least = Math.min(least, state.streets.get(s)[2]);
                }
            }
            if (least == 99) {
                return -9;
            }
            sum += least;
        }
        return sum;
    }

    private static int leastOf(int many, IntUnaryOperator measure) {
        int found = 0;
        for (int i = 1; i < many; i++) {
            found = measure.applyAsInt(i) < measure.applyAsInt(found) ? i : found;
        }
        return found;
    }

    int bestNoon() {
        int before = state.settings[0];
        int answer = 60 * leastOf(24, hour -> {
            state.settings[0] = 60 * hour;
            return cost();
        });
        state.settings[0] = before;
        return answer;
    }

    int lives() {
        return leastOf(state.corners, c -> state.errands.stream().mapToInt(e -> costOf(e, c, e[2])).sum());
    }

    int meets(int one, int other) {
        int many = state.errands.size();
        if (one < 0 || other < 0 || one >= many || other >= many || one == other) {
            return refuse(-1);
        }
        return meet(one, other) ? 1 : 0;
    }

    private boolean meet(int one, int other) {
        int[] e = state.errands.get(one);
        int[] f = state.errands.get(other);
        Trip first = trip(e[0], e[1], e[2]);
        Trip second = trip(f[0], f[1], f[2]);
        if (first == null || second == null) {
            return false;
        }
        for (Stay stay : first.stays()) {
            for (int minute = stay.comes(); minute <= stay.goes(); minute++) {
                for (Stay there : second.stays()) {
                    if (there.corner() == stay.corner() && there.comes() <= minute && minute <= there.goes()) {
                        return true;
                    }
                }
            }
        }
        return false;
    }

    int pairs() {
        int never = 0;
        for (int one = 0; one < state.errands.size(); one++) {
            for (int other = one + 1; other < state.errands.size(); other++) {
                never += meet(one, other) ? 0 : 1;
            }
        }
        return never;
    }

    int lanes(int corner, int minute, int within) {
        if (corner < 0 || corner >= state.corners) {
            return refuse(-1);
        }
        if (minute < 0 || within < 0) {
            return refuse(-4);
        }
        if (minute > LAST || within > LAST || state.streets.size() > 10) {
            return refuse(-6);
        }
        return fewest(ones -> {
            inMind = ones;
            return Arrays.stream(soonestFrom(corner, minute)).allMatch(m -> m != -9 && m - minute <= within);
        });
    }

    int shuts(int street) {
        if (street < 0 || street >= state.streets.size()) {
            return 1000000000 - refuse(-1);
        }
        int[] s = state.streets.get(street);
        int before = s[5];
        int cost = cost();
        s[5] = 1;
        int answer = cost() - cost;
        s[5] = before;
        return answer;
    }

    int days(int n, int z) {
        if (n < 1 || n > 10) {
            return refuse(n < 1 ? -4 : -6);
        }
        int sum = 0;
        int seed = z;
        for (int day = 0; day < n; day++) {
            for (int[] e : state.errands) {
                seed = (int) (seed * 1664525L + 1013904223L);
                long cut = (seed & 0x7fffffffL) >> 8;
                sum += costOf(e, e[0], (int) (cut % 1440));
            }
        }
        return sum;
    }

    int judge() {
        for (int s = 0; s < state.streets.size(); s++) {
            int[] street = state.streets.get(s);
            if (street[4] != 2 && street[4] != street[6]) {
                return s;
            }
        }
        int[][] least = frozen(0);
        for (int pair = 0; pair < 100; pair++) {
            int from = pair / 10;
            int to = pair % 10;
            if (from < state.corners && to < state.corners && least[from][to] == -9) {
                return 100 + pair;
            }
        }
        return -9;
    }

    int image() {
        image = state.copy();
        return state.streets.size();
    }

    int on() {
        if (image == null) {
            return refuse(-3);
        }
        state = image.copy();
        return state.streets.size();
    }

    private int sumOf(int what) {
        return state.streets.stream().mapToInt(s -> s[what]).sum();
    }

    int count(int what) {
        if (what >= 11 && what <= 16) {
            return refusals[what - 10];
        }
        int musts = (int) state.streets.stream().filter(s -> s[4] != 2).count();
        int[] counts = {state.corners, state.streets.size(), state.errands.size(), sumOf(3), musts, sumOf(5),
            state.row.size(), tape.length()};
        return what >= 0 && what < counts.length ? counts[what] : -9;
    }
}
