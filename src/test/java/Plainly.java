import java.math.BigInteger;
import java.util.ArrayDeque;
import java.util.ArrayList;
import java.util.Arrays;
import java.util.HashSet;
import java.util.List;
import java.util.Map;
import java.util.PriorityQueue;
import java.util.Set;
import java.util.TreeMap;
import java.util.TreeSet;
import java.util.regex.Matcher;
import java.util.regex.Pattern;

/**
 * The document's terms once more, as slowly and plainly as they are said: act by act, by trying all
 * that can be tried. Tests hold FathomNight's answers against these.
 */
final class Plainly {
    private Plainly() {
    }

    static final class Sleeper {
        int manner;
        int house;
        int bed;
        int lies;
        int rises;
        int sink;
        int deep;

        Sleeper copy() {
            Sleeper s = new Sleeper();
            s.manner = manner;
            s.house = house;
            s.bed = bed;
            s.lies = lies;
            s.rises = rises;
            s.sink = sink;
            s.deep = deep;
            return s;
        }
    }

    static final class Street {
        int houses = 4;
        Set<Integer> cats = new TreeSet<>();
        Map<String, Integer> doors = new TreeMap<>();
        List<Sleeper> sleepers = new ArrayList<>();
        List<int[]> wine = new ArrayList<>();
        Map<Integer, Integer> poppy = new TreeMap<>();
        Map<Integer, Integer> stands = new TreeMap<>();

        int door(int h, int k) {
            return doors.getOrDefault(Math.min(h, k) + "-" + Math.max(h, k), 0);
        }

        Street copy() {
            Street s = new Street();
            s.houses = houses;
            s.cats.addAll(cats);
            s.doors.putAll(doors);
            for (Sleeper each : sleepers) {
                s.sleepers.add(each.copy());
            }
            s.wine.addAll(wine);
            s.poppy.putAll(poppy);
            s.stands.putAll(stands);
            return s;
        }

        int up(int k) {
            int rises = sleepers.get(k).rises;
            for (int[] w : wine) {
                if (w[0] == k && w[1] >= rises - 8 && w[1] <= rises - 1) {
                    return Math.min(36, rises + 2);
                }
            }
            return rises;
        }

        boolean asleep(int k, int unit) {
            return sleepers.get(k).lies <= unit && unit < up(k);
        }

        boolean poppied(int k, int unit) {
            return poppy.containsKey(k) && poppy.get(k) <= unit;
        }

        /** woken: the UNIT, or null. */
        int depth(int k, int unit, Integer woken) {
            if (!asleep(k, unit)) {
                return 0;
            }
            Sleeper s = sleepers.get(k);
            int since = woken == null ? s.lies : woken;
            int depth = s.sink * (unit - since);
            int most = s.deep + (poppied(k, unit) ? 9 : 0);
            if (depth > most) {
                depth = most;
            }
            if (unit != since) {
                for (int[] w : wine) {
                    if (w[0] == k && w[1] <= unit && w[1] + 5 >= unit) {
                        depth += 3;
                    }
                }
            }
            if (s.manner == 1 && depth > 0) {
                depth--;
            }
            return depth;
        }

        Integer standin(int k) {
            if (sleepers.get(k).manner != 3) {
                return null;
            }
            for (Map.Entry<Integer, Integer> e : stands.entrySet()) {
                if (e.getValue() == k) {
                    return e.getKey();
                }
            }
            return null;
        }
    }

    static final class Law {
        int mark = 0;
        int cap = 999;
        int fine = 0;
        boolean shared = false;
        Set<Integer> free = new TreeSet<>();
        int[] rate = {1, 1, 1, 1, 1, 1, 1, 1, 1};

        int charge(Street s, int k, int reading, int unit) {
            if (free.contains(s.sleepers.get(k).house)) {
                return 0;
            }
            int charge = reading > mark ? (reading - mark) * rate[unit / 4] : 0;
            return charge + (s.poppied(k, unit) ? fine : 0);
        }
    }

    static final class Round {
        int house = 0;
        int unit = 0;
        List<int[]> acts = new ArrayList<>();
    }

    static final class Catch {
        List<int[]> rows = new ArrayList<>();
    }

    /** One READING: its act, SLEEPER, UNIT, READING. */
    static final class Reading {
        int act;
        int who;
        int unit;
        int reading;
    }

    static final class State {
        int done;
        int house;
        int unit;
        Integer[] woken = new Integer[9];
        int wakings = 0;
        List<Reading> readings = new ArrayList<>();
    }

    /** Goes through at most n ACTS; alarms wake one SLEEPER besides, if given. */
    static State walk(Street s, Round r, int n, int alarmed, Set<Integer> alarms, boolean cats) {
        State st = new State();
        st.house = r.house;
        st.unit = r.unit;
        ring(s, st, alarmed, alarms, 0, st.unit);
        for (int i = 0; i < r.acts.size() && i < n; i++) {
            if (st.house >= s.houses) {
                return st;
            }
            int[] act = r.acts.get(i);
            if (act[0] == 1) {
                soundAll(s, st, i);
            } else {
                int units = act[0] == 2 ? act[1] : act[1] < s.houses ? s.door(st.house, act[1]) : 0;
                if (units == 0 || st.unit + units > 35) {
                    return st;
                }
                ring(s, st, alarmed, alarms, st.unit + 1, st.unit + units);
                st.unit += units;
                if (act[0] == 0) {
                    st.house = act[1];
                    wake(s, st, cats);
                }
            }
            st.done = i + 1;
        }
        return st;
    }

    private static void ring(Street s, State st, int alarmed, Set<Integer> alarms, int from, int to) {
        for (int u = from; u <= to && alarms != null; u++) {
            if (alarms.contains(u) && s.asleep(alarmed, u)) {
                st.woken[alarmed] = u;
            }
        }
    }

    private static void wake(Street s, State st, boolean cats) {
        for (int k = 0; cats && k < s.sleepers.size(); k++) {
            int home = s.sleepers.get(k).house;
            if (home != st.house && s.cats.contains(home) && s.door(home, st.house) > 0 && s.asleep(k, st.unit)) {
                st.woken[k] = st.unit;
                st.wakings++;
            }
        }
    }

    private static void soundAll(Street s, State st, int act) {
        for (int k = 0; k < s.sleepers.size(); k++) {
            Sleeper who = s.sleepers.get(k);
            if (who.house == st.house && who.manner != 2 && s.asleep(k, st.unit)) {
                Reading r = new Reading();
                r.act = act;
                r.who = k;
                r.unit = st.unit;
                Integer other = s.standin(k);
                r.reading = other == null
                        ? s.depth(k, st.unit, st.woken[k]) : s.depth(other, st.unit, st.woken[other]);
                st.readings.add(r);
            }
        }
    }

    static int[] dues(Street s, Law law, List<Reading> readings) {
        int[] dues = new int[s.sleepers.size()];
        for (Reading r : readings) {
            int greatest = r.reading;
            if (law.shared) {
                for (Reading o : readings) {
                    if (o.act == r.act && s.sleepers.get(o.who).bed == s.sleepers.get(r.who).bed) {
                        greatest = Math.max(greatest, o.reading);
                    }
                }
            }
            dues[r.who] += law.charge(s, r.who, greatest, r.unit);
        }
        for (int k = 0; k < dues.length; k++) {
            dues[k] = Math.min(dues[k], law.cap);
        }
        return dues;
    }

    static State whole(Street s, Round r) {
        return walk(s, r, 99, -1, null, true);
    }

    static int sum(int[] row) {
        return Arrays.stream(row).sum();
    }

    static int stop(Street s, Round r) {
        return whole(s, r).done;
    }

    static int state(Street s, Law law, Round r, int n, int what) {
        if (n < 0 || n > stop(s, r)) {
            return -2;
        }
        State st = walk(s, r, n, -1, null, true);
        int k = what % 10;
        if (what >= 10 && k >= s.sleepers.size()) {
            return -2;
        }
        if (what == 0) {
            return st.house;
        } else if (what == 1) {
            return st.unit;
        } else if (what == 2) {
            return st.readings.size();
        } else if (what == 3) {
            return st.wakings;
        } else if (what == 4) {
            return sum(dues(s, law, st.readings));
        } else if (what / 10 == 1) {
            return dues(s, law, st.readings)[k];
        } else if (what / 10 == 2) {
            return st.woken[k] == null ? -1 : st.woken[k];
        } else if (what / 10 == 3) {
            int latest = -1;
            for (Reading each : st.readings) {
                latest = each.who == k ? each.reading : latest;
            }
            return latest;
        }
        return -2;
    }

    static int hours(Street s, Round r, int watch) {
        int many = 0;
        for (Reading each : whole(s, r).readings) {
            many += each.unit / 4 == watch ? 1 : 0;
        }
        return many;
    }

    /** LEAST, then the row. */
    static int[] seven(Street s, Law law, Round r) {
        int n = s.sleepers.size();
        int[] row = new int[n];
        int[] best = null;
        Street t = s.copy();
        int all = (int) Math.pow(9, n);
        for (int i = 0; i < all; i++) {
            int rest = i;
            for (int k = n - 1; k >= 0; k--) {
                row[k] = rest % 9;
                rest /= 9;
                t.sleepers.get(k).lies = row[k];
                t.sleepers.get(k).rises = row[k] + 28;
            }
            int due = sum(dues(t, law, whole(t, r).readings));
            if (best == null || due < best[0]) {
                best = new int[n + 1];
                best[0] = due;
                System.arraycopy(row, 0, best, 1, n);
            }
        }
        return best;
    }

    private static int dueAlarmed(Street s, Law law, Round r, int k, Set<Integer> alarms) {
        List<Reading> mixed = new ArrayList<>();
        for (Reading each : whole(s, r).readings) {
            if (each.who != k || s.standin(k) != null) {
                mixed.add(each);
            }
        }
        if (s.standin(k) == null) {
            for (Reading each : walk(s, r, 99, k, alarms, true).readings) {
                if (each.who == k) {
                    mixed.add(each);
                }
            }
        }
        return dues(s, law, mixed)[k];
    }

    static int[] refuge(Street s, Law law, Round r, int k) {
        int[] best = null;
        for (int u = 0; u < 36; u++) {
            int due = dueAlarmed(s, law, r, k, Set.of(u));
            if (best == null || due < best[0]) {
                best = new int[] {due, u};
            }
        }
        return best;
    }

    static int[] twice(Street s, Law law, Round r, int k) {
        int[] best = null;
        for (int number = 0; number < 36 * 36; number++) {
            Set<Integer> both = new HashSet<>(List.of(number / 36));
            both.add(number % 36);
            if (number % 36 >= number / 36) {
                int due = dueAlarmed(s, law, r, k, both);
                if (best == null || due < best[0]) {
                    best = new int[] {due, number};
                }
            }
        }
        return best;
    }

    /** A round that goes and sounds through a row of HOUSES from HOUSE 0 on. */
    private static Round roundOf(List<Integer> row) {
        Round r = new Round();
        r.acts.add(new int[] {1, -1});
        for (int i = 1; i < row.size(); i++) {
            r.acts.add(new int[] {0, row.get(i)});
            r.acts.add(new int[] {1, -1});
        }
        return r;
    }

    private static State walkRow(Street s, List<Integer> row) {
        State st = walk(s, roundOf(row), 99, -1, null, false);
        return st.done == 2 * row.size() - 1 ? st : null;
    }

    /** The sum, then the row. */
    static List<Integer> sold(Street s, Law law) {
        Law uncapped = new Law();
        uncapped.mark = law.mark;
        uncapped.fine = law.fine;
        uncapped.shared = law.shared;
        uncapped.free = law.free;
        uncapped.rate = law.rate;
        uncapped.cap = Integer.MAX_VALUE;
        List<Integer> best = new ArrayList<>();
        sell(s, uncapped, new ArrayList<>(List.of(0)), best);
        return best;
    }

    private static void sell(Street s, Law law, List<Integer> row, List<Integer> best) {
        State st = walkRow(s, row);
        if (st == null) {
            return;
        }
        int all = sum(dues(s, law, st.readings));
        if (best.isEmpty() || all > best.get(0)) {
            best.clear();
            best.add(all);
            best.addAll(row);
        }
        for (int h = 0; h < s.houses; h++) {
            if (!row.contains(h)) {
                row.add(h);
                sell(s, law, row, best);
                row.remove(row.size() - 1);
            }
        }
    }

    /** By HOUSES how many; behind them how many in all; the fewest UNITS, or -1. */
    static long[] went(Street s, Law law, Catch c, int n) {
        for (int[] row : c.rows) {
            if (row[1] >= s.sleepers.size()) {
                return null;
            }
        }
        long[] found = new long[10];
        found[9] = -1;
        go(s, law, c, n, new ArrayList<>(List.of(0)), found);
        return found;
    }

    private static void go(Street s, Law law, Catch c, int n, List<Integer> row, long[] found) {
        State st = walkRow(s, row);
        if (st == null) {
            return;
        }
        if (row.size() == n + 1) {
            if (fits(law, c, st)) {
                found[st.house]++;
                found[8]++;
                found[9] = found[9] < 0 ? st.unit : Math.min(found[9], st.unit);
            }
            return;
        }
        for (int h = 0; h < s.houses; h++) {
            row.add(h);
            go(s, law, c, n, row, found);
            row.remove(row.size() - 1);
        }
    }

    private static boolean fits(Law law, Catch c, State st) {
        Set<Integer> caught = new HashSet<>();
        for (Reading r : st.readings) {
            if (r.reading > law.mark) {
                caught.add(r.who);
            }
        }
        for (int[] row : c.rows) {
            if (caught.contains(row[1]) != (row[0] == 1)) {
                return false;
            }
        }
        return true;
    }

    static int quick(Street s, int from, int to) {
        int[] units = new int[8];
        Arrays.fill(units, -1);
        PriorityQueue<int[]> open = new PriorityQueue<>((a, b) -> a[1] - b[1]);
        open.add(new int[] {from, 0});
        while (!open.isEmpty()) {
            int[] at = open.poll();
            if (units[at[0]] < 0) {
                units[at[0]] = at[1];
                for (int h = 0; h < s.houses; h++) {
                    if (s.door(at[0], h) > 0) {
                        open.add(new int[] {h, at[1] + s.door(at[0], h)});
                    }
                }
            }
        }
        return units[to];
    }

    static int trip(Street s, int from) {
        boolean[][] seen = new boolean[256][8];
        PriorityQueue<int[]> open = new PriorityQueue<>((a, b) -> a[2] - b[2]);
        open.add(new int[] {1 << from, from, 0});
        while (!open.isEmpty()) {
            int[] at = open.poll();
            if (at[0] == (1 << s.houses) - 1) {
                return at[2];
            }
            if (!seen[at[0]][at[1]]) {
                seen[at[0]][at[1]] = true;
                for (int h = 0; h < s.houses; h++) {
                    if (s.door(at[1], h) > 0) {
                        open.add(new int[] {at[0] | 1 << h, h, at[2] + s.door(at[1], h)});
                    }
                }
            }
        }
        return -1;
    }

    static int cats(Street s) {
        for (int many = 1; many <= 8; many++) {
            for (int set = 0; set < 1 << s.houses; set++) {
                boolean all = Integer.bitCount(set) == many;
                for (int h = 0; h < s.houses && all; h++) {
                    boolean one = (set >> h & 1) != 0;
                    for (int k = 0; k < s.houses; k++) {
                        one |= s.door(h, k) > 0 && (set >> k & 1) != 0;
                    }
                    all = one;
                }
                if (all) {
                    return set;
                }
            }
        }
        return -1;
    }

    /** How many ways, and LEAST DUE. */
    static int[] standins(Street s, Law law, Round r) {
        ArrayDeque<Map<Integer, Integer>> ways = new ArrayDeque<>();
        ways.add(new TreeMap<>());
        for (int k = 0; k < s.sleepers.size(); k++) {
            int many = ways.size();
            for (int i = 0; i < many && s.sleepers.get(k).manner == 3; i++) {
                Map<Integer, Integer> way = ways.poll();
                ways.add(way);
                for (int j = 0; j < s.sleepers.size(); j++) {
                    Sleeper other = s.sleepers.get(j);
                    if (other.manner == 0 && other.house == s.sleepers.get(k).house && !way.containsKey(j)) {
                        Map<Integer, Integer> more = new TreeMap<>(way);
                        more.put(j, k);
                        ways.add(more);
                    }
                }
            }
        }
        int least = Integer.MAX_VALUE;
        Street t = s.copy();
        for (Map<Integer, Integer> way : ways) {
            t.stands = way;
            least = Math.min(least, sum(dues(t, law, whole(t, r).readings)));
        }
        return new int[] {ways.size(), least};
    }

    static int arrears(Street s, Law law, Round r, int k, int n) {
        int owed = 0;
        for (int i = 0; i < n; i++) {
            owed += 6 * dues(s, law, whole(s, r).readings)[k];
            for (int u = 0; u < 36; u++) {
                owed -= s.asleep(k, u) && owed > 0 ? 1 : 0;
            }
        }
        return owed;
    }

    static int[] fraction(int above, int below) {
        if (above == 0) {
            return new int[] {0, 1};
        }
        int common = BigInteger.valueOf(above).gcd(BigInteger.valueOf(below)).intValue();
        return new int[] {above / common, below / common};
    }

    static int[] odds(Street s, Law law, int k) {
        int sum = 0;
        int many = 0;
        for (int u = 0; u < 36; u++) {
            if (s.asleep(k, u)) {
                many++;
                Integer other = s.standin(k);
                sum += law.charge(s, k, s.depth(other == null ? k : other, u, null), u);
            }
        }
        return s.sleepers.get(k).manner == 2 ? new int[] {0, 1} : fraction(sum, many);
    }

    /** DUE by SLEEPERS, then of all, then the nights. */
    static int[] drawn(Street s, Law law, Round r, int seed, int nights) {
        int n = s.sleepers.size();
        int[] found = new int[n + 2];
        long x = seed & 0xffffffffL;
        Street t = s.copy();
        for (int i = 0; i < nights; i++) {
            t.wine.clear();
            for (int k = 0; k < n; k++) {
                x = (x * 1103515245L + 12345L) & 0xffffffffL;
                if ((x >> 16) % 4 == 0) {
                    x = (x * 1103515245L + 12345L) & 0xffffffffL;
                    t.wine.add(new int[] {k, (int) ((x >> 16) % 36)});
                }
            }
            List<Reading> readings = whole(t, r).readings;
            int[] dues = dues(t, law, readings);
            for (int k = 0; k < n; k++) {
                found[k] += dues[k];
                found[n] += dues[k];
            }
            boolean any = false;
            for (Reading each : readings) {
                any |= each.reading > law.mark;
            }
            found[n + 1] += any ? 1 : 0;
        }
        return found;
    }

    static int[] loud(Street s, int unit) {
        int who = -1;
        int deepest = -1;
        for (int k = 0; k < s.sleepers.size(); k++) {
            if (s.asleep(k, unit) && s.depth(k, unit, null) > deepest) {
                who = k;
                deepest = s.depth(k, unit, null);
            }
        }
        return new int[] {who, deepest};
    }

    static int calm(Street s, Law law) {
        int many = 0;
        for (int u = 0; u < 36; u++) {
            boolean calm = true;
            for (int k = 0; k < s.sleepers.size(); k++) {
                if (s.asleep(k, u) && s.sleepers.get(k).manner != 2) {
                    Integer other = s.standin(k);
                    calm &= s.depth(other == null ? k : other, u, null) <= law.mark;
                }
            }
            many += calm ? 1 : 0;
        }
        return many;
    }

    static int paid(Street s, Law law, Round r, int coins) {
        int[] dues = dues(s, law, whole(s, r).readings);
        int best = 0;
        for (int set = (1 << dues.length) - 1; set > 0; set--) {
            int sum = 0;
            for (int k = 0; k < dues.length; k++) {
                sum += (set >> k & 1) * dues[k];
            }
            if (sum <= coins && Integer.bitCount(set) >= Integer.bitCount(best)) {
                best = set;
            }
        }
        return best;
    }

    static int[] share(Street s, Law law, Round r, int house) {
        int[] dues = dues(s, law, whole(s, r).readings);
        int part = 0;
        for (int k = 0; k < dues.length; k++) {
            part += s.sleepers.get(k).house == house ? dues[k] : 0;
        }
        return fraction(part, sum(dues));
    }

    /** A text that was read: a FAULT and its place, or what it told. */
    static final class Text {
        int fault = 0;
        int place = -1;
        Street street = new Street();
        Law law = new Law();
        Round round = new Round();
        Catch caught = new Catch();
    }

    private static final Map<String, String> STREET_LINES = Map.of(
            "houses", "1-8", "door", "0-7 0-7 1-9", "cat", "0-7", "plain", "0-7 0-3 0-35 1-36 1-9 0-60",
            "mother", "0-7 0-3 0-35 1-36 1-9 0-60", "child", "0-7 0-3 0-35 1-36 1-9 0-60",
            "rich", "0-7 0-3 0-35 1-36 1-9 0-60", "wine", "0-8 0-35", "poppy", "0-8 0-35", "stands", "0-8 0-8");
    private static final Map<String, String> LAW_LINES = Map.of(
            "mark", "0-60", "cap", "1-999", "fine", "0-99", "free", "0-7", "rate", "0-8 0-9", "shared", "");
    private static final Map<String, String> ROUND_LINES = Map.of(
            "begin", "0-7 0-35", "go", "0-7", "sound", "", "wait", "1-35");
    private static final Map<String, String> CATCH_LINES = Map.of("caught", "0-8", "quiet", "0-8");
    private static final List<Map<String, String>> LINES =
            List.of(STREET_LINES, LAW_LINES, ROUND_LINES, CATCH_LINES);
    private static final List<String> MANNERS = List.of("plain", "mother", "child", "rich");
    private static final Pattern TOKEN = Pattern.compile("[ \\n]*([a-z]+|[0-9]+|[^ \\n]|\\z)", Pattern.DOTALL);

    /** Reads a text of signs 0 to 255. */
    static Text read(int sort, String tape) {
        List<String> tokens = new ArrayList<>();
        List<Integer> places = new ArrayList<>();
        Matcher m = TOKEN.matcher(tape);
        int at = 0;
        while (tokens.isEmpty() || !tokens.get(tokens.size() - 1).isEmpty()) {
            if (!m.find(at)) {
                throw new IllegalStateException("no token at " + at);
            }
            tokens.add(m.group(1));
            places.add(m.start(1));
            at = m.end();
        }
        Text text = new Text();
        int wrong = firstWrong(sort, tokens);
        if (wrong >= 0) {
            text.fault = 1;
            text.place = places.get(wrong);
            return text;
        }
        List<int[]> faults = new ArrayList<>();
        Set<Integer> houses = new TreeSet<>();
        Set<Integer> sleepers = new TreeSet<>();
        for (int i = 0; i < tokens.size() - 1; i = tokens.subList(i, tokens.size()).indexOf(";") + i + 1) {
            int many = LINES.get(sort).get(tokens.get(i)).isEmpty()
                    ? 0 : LINES.get(sort).get(tokens.get(i)).split(" ").length;
            int[] numbers = new int[many];
            for (int j = 0; j < many; j++) {
                numbers[j] = Integer.parseInt(tokens.get(i + 1 + j));
                if (!canBe(tokens.get(i), LINES.get(sort).get(tokens.get(i)).split(" ")[j], numbers, j)) {
                    faults.add(new int[] {places.get(i + 1 + j), 2});
                }
            }
            tell(text, tokens.get(i), numbers, houses, sleepers);
            if (isTooMany(text, tokens.get(i))) {
                faults.add(new int[] {places.get(i), 3});
            }
        }
        if (!faults.isEmpty()) {
            faults.sort((a, b) -> a[0] != b[0] ? a[0] - b[0] : a[1] - b[1]);
            text.place = faults.get(0)[0];
            text.fault = faults.get(0)[1];
        } else if (sort == 0) {
            close(text, houses, sleepers, tape.length());
        }
        return text;
    }

    private static int firstWrong(int sort, List<String> tokens) {
        int i = 0;
        while (!tokens.get(i).isEmpty()) {
            String bounds = LINES.get(sort).get(tokens.get(i));
            if (bounds == null) {
                return i;
            }
            i++;
            for (int j = bounds.isEmpty() ? 0 : bounds.split(" ").length; j > 0; j--, i++) {
                if (!tokens.get(i).matches("[0-9]{1,3}")) {
                    return i;
                }
            }
            if (!tokens.get(i).equals(";")) {
                return i;
            }
            i++;
        }
        return -1;
    }

    private static boolean canBe(String word, String bounds, int[] numbers, int j) {
        int low = Integer.parseInt(bounds.split("-")[0]);
        int high = Integer.parseInt(bounds.split("-")[1]);
        if (numbers[j] < low || numbers[j] > high) {
            return false;
        }
        if ((word.equals("door") || word.equals("stands")) && j == 1 && numbers[0] == numbers[1]) {
            return false;
        }
        return !(MANNERS.contains(word) && j == 3 && numbers[3] <= numbers[2]);
    }

    private static boolean isTooMany(Text t, String word) {
        return MANNERS.contains(word) && t.street.sleepers.size() > 9 || word.equals("wine") && t.street.wine.size() > 8
                || List.of("go", "sound", "wait").contains(word) && t.round.acts.size() > 40
                || List.of("caught", "quiet").contains(word) && t.caught.rows.size() > 8;
    }

    private static void tell(Text t, String word, int[] n, Set<Integer> houses, Set<Integer> sleepers) {
        switch (word) {
            case "houses" -> t.street.houses = n[0];
            case "door" -> {
                houses.addAll(List.of(n[0], n[1]));
                t.street.doors.put(Math.min(n[0], n[1]) + "-" + Math.max(n[0], n[1]), n[2]);
            }
            case "cat" -> {
                houses.add(n[0]);
                t.street.cats.add(n[0]);
            }
            case "plain", "mother", "child", "rich" -> {
                houses.add(n[0]);
                Sleeper s = new Sleeper();
                s.manner = MANNERS.indexOf(word);
                s.house = n[0];
                s.bed = n[1];
                s.lies = n[2];
                s.rises = n[3];
                s.sink = n[4];
                s.deep = n[5];
                t.street.sleepers.add(s);
            }
            case "wine" -> {
                sleepers.add(n[0]);
                t.street.wine.add(n);
            }
            case "poppy" -> {
                sleepers.add(n[0]);
                t.street.poppy.put(n[0], n[1]);
            }
            case "stands" -> {
                sleepers.addAll(List.of(n[0], n[1]));
                t.street.stands.put(n[0], n[1]);
            }
            case "mark" -> t.law.mark = n[0];
            case "cap" -> t.law.cap = n[0];
            case "fine" -> t.law.fine = n[0];
            case "free" -> t.law.free.add(n[0]);
            case "rate" -> {
                if (n[0] < 9) {
                    t.law.rate[n[0]] = n[1];
                }
            }
            case "shared" -> t.law.shared = true;
            case "begin" -> {
                t.round.house = n[0];
                t.round.unit = n[1];
            }
            case "go" -> t.round.acts.add(new int[] {0, n[0]});
            case "sound" -> t.round.acts.add(new int[] {1, -1});
            case "wait" -> t.round.acts.add(new int[] {2, n[0]});
            case "caught" -> t.caught.rows.add(new int[] {1, n[0]});
            case "quiet" -> t.caught.rows.add(new int[] {0, n[0]});
            default -> throw new IllegalStateException(word);
        }
    }

    private static void close(Text t, Set<Integer> houses, Set<Integer> sleepers, int end) {
        for (int h : houses) {
            t.fault = h >= t.street.houses ? 4 : t.fault;
        }
        for (int k : sleepers) {
            t.fault = k >= t.street.sleepers.size() ? 4 : t.fault;
        }
        for (Map.Entry<Integer, Integer> e : t.street.stands.entrySet()) {
            if (t.fault == 0) {
                Sleeper who = t.street.sleepers.get(e.getKey());
                Sleeper whom = t.street.sleepers.get(e.getValue());
                t.fault = who.house != whom.house || whom.manner != 3 ? 5 : 0;
            }
        }
        t.place = t.fault == 0 ? -1 : end;
    }
}
