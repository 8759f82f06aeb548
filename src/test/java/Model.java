import java.util.ArrayList;
import java.util.Comparator;
import java.util.HashSet;
import java.util.LinkedHashMap;
import java.util.List;
import java.util.Map;
import java.util.NoSuchElementException;
import java.util.Set;
import java.util.TreeMap;
import java.util.TreeSet;

/**
 * The document's words, done in the plainest and slowest way: all WAYS are written out one by one
 * and looked at. Good for small desks alone (WideModel is for others); the tests compare the class with it.
 */
class Model {
    static final int NONE = -1;
    static final int NO_WAY = -2;

    static final class Departure {
        int line, from, to, start, takes, delay, link;
        boolean cancelled;

        int leaves() {
            return start + delay;
        }

        int arrives() {
            return start + delay + takes;
        }
    }

    /** A change to be made again the other way round. */
    private interface Back {
        void go();
    }

    private final StringBuilder tape = new StringBuilder();
    private int span;
    private int lines;
    private int links;
    private List<Integer> change = new ArrayList<>();
    private List<Integer> wait = new ArrayList<>();
    List<Departure> departures = new ArrayList<>();
    private final List<Back> acts = new ArrayList<>();
    private int trouble;
    private int fault;
    private int place;

    /** How many departures there are; asked by the tests, without any trouble. */
    int count() {
        return departures.size();
    }

    int firstCancelled() {
        for (int d = 0; d < departures.size(); d++) {
            if (departures.get(d).cancelled) {
                return d;
            }
        }
        return NONE;
    }

    // ---- the desk

    int feed(String twenty) {
        if (tape.length() + 20 > 900) {
            return NONE;
        }
        tape.append(twenty);
        return tape.length();
    }

    int desk(int n) {
        if (n < 0 || n > tape.length()) {
            return refuse(2);
        }
        Grammar grammar = new Grammar(tape.substring(0, n));
        tape.setLength(0);
        grammar.parse();
        fault = grammar.fault;
        place = grammar.place;
        if (fault != 0) {
            return refuse(4);
        }
        span = grammar.span;
        lines = grammar.lines.size();
        links = grammar.links;
        change = grammar.change;
        wait = grammar.wait;
        departures = grammar.departures;
        acts.clear();
        return answer(departures.size());
    }

    int fault() {
        return fault;
    }

    int where() {
        return trouble == 4 ? place : NONE;
    }

    int about(int what) {
        if (change.isEmpty() || what < 0 || what > 5) {
            return refuse(1);
        }
        int[] all = {span, change.size(), lines, links, departures.size(), running()};
        return answer(all[what]);
    }

    int spot(int s, int what) {
        if (!isSpot(s) || what < 0 || what > 3) {
            return refuse(1);
        }
        int out = 0;
        int in = 0;
        for (Departure d : departures) {
            if (!d.cancelled) {
                out += d.from == s ? 1 : 0;
                in += d.to == s ? 1 : 0;
            }
        }
        int[] all = {change.get(s), wait.get(s), out, in};
        return answer(all[what]);
    }

    int departure(int d, int what) {
        if (!isDeparture(d) || what < 0 || what > 7) {
            return refuse(1);
        }
        Departure x = departures.get(d);
        int[] all = {x.line, x.from, x.to, x.leaves(), x.arrives(), x.delay, x.cancelled ? 0 : 1, x.link};
        return answer(all[what]);
    }

    int ordered(int k) {
        List<Integer> row = new ArrayList<>();
        for (int d = 0; d < departures.size(); d++) {
            if (!departures.get(d).cancelled) {
                row.add(d);
            }
        }
        row.sort(Comparator.comparingInt((Integer d) -> departures.get(d).leaves()).thenComparingInt(d -> d));
        return k < 0 || k >= row.size() ? refuse(1) : answer(row.get(k));
    }

    // ---- WAYS

    /** All WAYS from a to b, READY at t. */
    List<List<Integer>> ways(int a, int b, int t) {
        List<List<Integer>> all = new ArrayList<>();
        if (a == b) {
            all.add(new ArrayList<>());
            return all;
        }
        for (int d = 0; d < departures.size(); d++) {
            Departure x = departures.get(d);
            if (!x.cancelled && x.from == a && x.leaves() >= t) {
                List<Integer> way = new ArrayList<>();
                way.add(d);
                goOn(way, b, all);
            }
        }
        return all;
    }

    private void goOn(List<Integer> way, int b, List<List<Integer>> all) {
        Departure last = departures.get(way.get(way.size() - 1));
        if (last.to == b) {
            all.add(new ArrayList<>(way));
        }
        for (int d = 0; d < departures.size(); d++) {
            Departure x = departures.get(d);
            if (follows(last, x)) {
                way.add(d);
                goOn(way, b, all);
                way.remove(way.size() - 1);
            }
        }
    }

    boolean follows(Departure last, Departure x) {
        if (x.cancelled || x.from != last.to) {
            return false;
        }
        int w = wait.get(x.from);
        int least = last.arrives() + (x.line == last.line ? 0 : change.get(x.from));
        return x.leaves() >= least && (w == -2 || x.leaves() <= last.arrives() + w);
    }

    /** Whether there is a WAY, where there may be too many of them to write out. */
    private boolean hasWay(int a, int b, int t) {
        Set<Departure> ridden = new HashSet<>();
        boolean more = a != b;
        while (more) {
            more = false;
            for (Departure x : departures) {
                boolean first = !x.cancelled && x.from == a && x.leaves() >= t;
                if (!ridden.contains(x) && (first || ridden.stream().anyMatch(last -> follows(last, x)))) {
                    ridden.add(x);
                    more = true;
                }
            }
        }
        return a == b || ridden.stream().anyMatch(x -> x.to == b);
    }

    private int end(List<Integer> way, int t) {
        return way.isEmpty() ? t : departures.get(way.get(way.size() - 1)).arrives();
    }

    private int start(List<Integer> way, int t) {
        return way.isEmpty() ? t : departures.get(way.get(0)).leaves();
    }

    private int turns(List<Integer> way) {
        int turns = 0;
        for (int i = 1; i < way.size(); i++) {
            turns += departures.get(way.get(i)).line != departures.get(way.get(i - 1)).line ? 1 : 0;
        }
        return turns;
    }

    List<Integer> best(int a, int b, int t) {
        Comparator<List<Integer>> order = Comparator.comparingInt((List<Integer> w) -> end(w, t))
                .thenComparingInt(w -> turns(w))
                .thenComparingInt(w -> -start(w, t))
                .thenComparingInt(w -> w.size())
                .thenComparing(Model::compareRows);
        return ways(a, b, t).stream().min(order).orElse(null);
    }

    private static int compareRows(List<Integer> v, List<Integer> w) {
        for (int i = 0; i < v.size(); i++) {
            if (!v.get(i).equals(w.get(i))) {
                return v.get(i) - w.get(i);
            }
        }
        return 0;
    }

    // ---- the BEST WAY

    private int bad(int a, int b, boolean numbers) {
        return !isSpot(a) || !isSpot(b) ? 1 : numbers ? 0 : 2;
    }

    private int badUnlike(int a, int b, boolean numbers) {
        return a == b ? 1 : bad(a, b, numbers);
    }

    private static boolean time(int t) {
        return t >= 0 && t <= 1999;
    }

    int arrives(int a, int b, int t) {
        return ofBest(a, b, t, 0);
    }

    int changes(int a, int b, int t) {
        return ofBest(a, b, t, 1);
    }

    int leaves(int a, int b, int t) {
        return ofBest(a, b, t, 2);
    }

    int rides(int a, int b, int t) {
        return ofBest(a, b, t, 3);
    }

    int stands(int a, int b, int t) {
        return ofBest(a, b, t, 4);
    }

    private int ofBest(int a, int b, int t, int what) {
        if (bad(a, b, time(t)) != 0) {
            return refuse(bad(a, b, time(t)));
        }
        List<Integer> way = best(a, b, t);
        if (way == null) {
            return answer(NO_WAY);
        }
        int stands = 0;
        for (int i = 1; i < way.size(); i++) {
            stands += departures.get(way.get(i)).leaves() - departures.get(way.get(i - 1)).arrives();
        }
        int[] all = {end(way, t), turns(way), start(way, t), way.size(), stands};
        return answer(all[what]);
    }

    int ride(int a, int b, int t, int i) {
        if (bad(a, b, time(t)) != 0) {
            return refuse(bad(a, b, time(t)));
        }
        List<Integer> way = best(a, b, t);
        if (way == null) {
            return answer(NO_WAY);
        }
        return i < 0 || i >= way.size() ? refuse(1) : answer(way.get(i));
    }

    /** The pairs of trades, by CHANGES rising; of each the latest start. */
    List<int[]> bargains(int a, int b, int t) {
        List<List<Integer>> ways = ways(a, b, t);
        Map<Integer, int[]> found = new TreeMap<>();
        for (List<Integer> v : ways) {
            boolean beaten = false;
            for (List<Integer> w : ways) {
                beaten |= end(w, t) <= end(v, t) && turns(w) <= turns(v)
                        && (end(w, t) < end(v, t) || turns(w) < turns(v));
            }
            if (!beaten) {
                int[] pair = found.computeIfAbsent(turns(v), k -> new int[] {end(v, t), turns(v), start(v, t)});
                pair[2] = Math.max(pair[2], start(v, t));
            }
        }
        return new ArrayList<>(found.values());
    }

    int trades(int a, int b, int t) {
        if (bad(a, b, time(t)) != 0) {
            return refuse(bad(a, b, time(t)));
        }
        int n = bargains(a, b, t).size();
        return answer(n == 0 ? NO_WAY : n);
    }

    int trade(int a, int b, int t, int i, int what) {
        if (bad(a, b, time(t)) != 0) {
            return refuse(bad(a, b, time(t)));
        }
        List<int[]> all = bargains(a, b, t);
        if (all.isEmpty()) {
            return answer(NO_WAY);
        }
        return i < 0 || i >= all.size() || what < 0 || what > 2 ? refuse(1) : answer(all.get(i)[what]);
    }

    int within(int a, int b, int t, int k) {
        int bad = bad(a, b, time(t) && k >= 0 && k <= 20);
        if (bad != 0) {
            return refuse(bad);
        }
        return answer(soonestWithin(a, b, t, k));
    }

    /** When the first WAY with k CHANGES at most ARRIVES. */
    int soonestWithin(int a, int b, int t, int k) {
        return ways(a, b, t).stream().filter(w -> turns(w) <= k).mapToInt(w -> end(w, t))
                .min().orElse(NO_WAY);
    }

    // ---- other questions

    /** When the BEST WAY ARRIVES; null if there is none. */
    Integer soonest(int a, int b, int t) {
        List<Integer> way = best(a, b, t);
        return way == null ? null : Integer.valueOf(end(way, t));
    }

    int latest(int a, int b, int by) {
        int bad = bad(a, b, time(by));
        if (bad != 0) {
            return refuse(bad);
        }
        return answer(a == b ? by : lastStart(a, b, by));
    }

    /** When the last WAY that ARRIVES in time LEAVES. */
    int lastStart(int a, int b, int by) {
        return ways(a, b, 0).stream().filter(w -> end(w, 0) <= by).mapToInt(w -> start(w, 0))
                .max().orElse(NO_WAY);
    }

    int reach(int a, int t, int by) {
        int bad = bad(a, a, time(t) && time(by));
        if (bad != 0) {
            return refuse(bad);
        }
        int bits = 0;
        for (int s = 0; s < change.size(); s++) {
            Integer end = soonest(a, s, t);
            bits |= end != null && end <= by ? 1 << s : 0;
        }
        return answer(bits);
    }

    int farthest(int a, int t) {
        int bad = bad(a, a, time(t));
        if (bad != 0) {
            return refuse(bad);
        }
        int far = NONE;
        int last = NONE;
        for (int s = 0; s < change.size(); s++) {
            Integer end = soonest(a, s, t);
            if (end != null && end > last) {
                last = end;
                far = s;
            }
        }
        return answer(far);
    }

    int meets(int a, int b, int t) {
        int bad = bad(a, b, time(t));
        if (bad != 0) {
            return refuse(bad);
        }
        int spot = NO_WAY;
        int least = 9999;
        for (int s = 0; s < change.size(); s++) {
            Integer one = soonest(a, s, t);
            Integer two = soonest(b, s, t);
            if (one != null && two != null && Math.max(one, two) < least) {
                least = Math.max(one, two);
                spot = s;
            }
        }
        return answer(spot);
    }

    int round(int a, int b, int t, int stay) {
        int bad = bad(a, b, time(t) && stay >= 0 && stay <= 999);
        if (bad != 0) {
            return refuse(bad);
        }
        Integer there = soonest(a, b, t);
        Integer back = there == null ? null : soonest(b, a, there + stay);
        return answer(back == null ? NO_WAY : back);
    }

    List<int[]> profile(int a, int b) {
        List<List<Integer>> ways = ways(a, b, 0);
        Map<Integer, int[]> found = new TreeMap<>();
        for (List<Integer> v : ways) {
            boolean beaten = false;
            for (List<Integer> w : ways) {
                beaten |= start(w, 0) >= start(v, 0) && end(w, 0) <= end(v, 0)
                        && (start(w, 0) > start(v, 0) || end(w, 0) < end(v, 0));
            }
            if (!beaten) {
                int[] step = found.computeIfAbsent(start(v, 0),
                        k -> new int[] {start(v, 0), end(v, 0), turns(v)});
                step[2] = Math.min(step[2], turns(v));
            }
        }
        return new ArrayList<>(found.values());
    }

    int steps(int a, int b) {
        int bad = badUnlike(a, b, true);
        return bad != 0 ? refuse(bad) : answer(profile(a, b).size());
    }

    int step(int a, int b, int i, int what) {
        int bad = badUnlike(a, b, true);
        if (bad != 0) {
            return refuse(bad);
        }
        List<int[]> all = profile(a, b);
        return i < 0 || i >= all.size() || what < 0 || what > 2 ? refuse(1) : answer(all.get(i)[what]);
    }

    int quickest(int a, int b) {
        int bad = badUnlike(a, b, true);
        if (bad != 0) {
            return refuse(bad);
        }
        return answer(profile(a, b).stream().mapToInt(s -> s[1] - s[0]).min().orElse(NO_WAY));
    }

    int spent(int a, int b, int from, int till) {
        int bad = badUnlike(a, b, time(from) && time(till) && from <= till);
        if (bad != 0) {
            return refuse(bad);
        }
        return answer(ticks(a, b, from, till));
    }

    /** All that spent() tells, looked at tick by tick. */
    int ticks(int a, int b, int from, int till) {
        List<List<Integer>> all = ways(a, b, from);
        int sum = 0;
        for (int t = from; t <= till; t++) {
            int ready = t;
            int end = all.stream().filter(w -> start(w, 0) >= ready).mapToInt(w -> end(w, 0))
                    .min().orElse(NONE);
            if (end == NONE) {
                return NO_WAY;
            }
            sum += end - t;
        }
        return sum;
    }

    private List<Integer> otherEnds(int a, int b, int t) {
        List<Integer> ends = new ArrayList<>();
        List<Departure> taken = new ArrayList<>();
        for (List<Integer> way = best(a, b, t); way != null; way = best(a, b, t)) {
            ends.add(end(way, t));
            for (int d : way) {
                departures.get(d).cancelled = true;
                taken.add(departures.get(d));
            }
        }
        for (Departure d : taken) {
            d.cancelled = false;
        }
        return ends;
    }

    int others(int a, int b, int t) {
        int bad = badUnlike(a, b, time(t));
        return bad != 0 ? refuse(bad) : answer(otherEnds(a, b, t).size());
    }

    int other(int a, int b, int t, int i) {
        int bad = badUnlike(a, b, time(t));
        if (bad != 0) {
            return refuse(bad);
        }
        List<Integer> ends = otherEnds(a, b, t);
        return i < 0 || i >= ends.size() ? refuse(1) : answer(ends.get(i));
    }

    private List<List<Integer>> allBest(int t) {
        List<List<Integer>> all = new ArrayList<>();
        for (int a = 0; a < change.size(); a++) {
            for (int b = 0; b < change.size(); b++) {
                List<Integer> way = a == b ? null : best(a, b, t);
                if (way != null) {
                    all.add(way);
                }
            }
        }
        return all;
    }

    private int badDesk(int t) {
        return change.isEmpty() ? 1 : time(t) ? 0 : 2;
    }

    int pairs(int t) {
        return badDesk(t) != 0 ? refuse(badDesk(t)) : answer(allBest(t).size());
    }

    int hub(int t) {
        if (badDesk(t) != 0) {
            return refuse(badDesk(t));
        }
        int[] turns = new int[change.size()];
        for (List<Integer> way : allBest(t)) {
            for (int i = 1; i < way.size(); i++) {
                Departure x = departures.get(way.get(i));
                turns[x.from] += x.line != departures.get(way.get(i - 1)).line ? 1 : 0;
            }
        }
        int hub = NO_WAY;
        for (int s = 0; s < turns.length; s++) {
            if (turns[s] > (hub == NO_WAY ? 0 : turns[hub])) {
                hub = s;
            }
        }
        return answer(hub);
    }

    int slowest(int t) {
        if (badDesk(t) != 0) {
            return refuse(badDesk(t));
        }
        return answer(allBest(t).stream().mapToInt(w -> end(w, t) - t).max().orElse(NO_WAY));
    }

    // ---- what a way hangs on

    private int need(int a, int b, int t, int d) {
        Integer with = soonest(a, b, t);
        if (with == null) {
            return -3;
        }
        Departure x = departures.get(d);
        boolean was = x.cancelled;
        x.cancelled = true;
        Integer without = soonest(a, b, t);
        x.cancelled = was;
        return without == null ? NO_WAY : without - with;
    }

    int needs(int a, int b, int t, int d) {
        int bad = isDeparture(d) ? bad(a, b, time(t)) : 1;
        return bad != 0 ? refuse(bad) : answer(need(a, b, t, d));
    }

    int vital(int a, int b, int t) {
        int bad = bad(a, b, time(t));
        if (bad != 0) {
            return refuse(bad);
        }
        if (soonest(a, b, t) == null) {
            return answer(NO_WAY);
        }
        int vital = 0;
        for (int d = 0; d < departures.size(); d++) {
            vital += need(a, b, t, d) != 0 ? 1 : 0;
        }
        return answer(vital);
    }

    int slack(int a, int b, int t, int d) {
        int bad = isDeparture(d) ? bad(a, b, time(t)) : 1;
        if (bad != 0) {
            return refuse(bad);
        }
        Integer due = soonest(a, b, t);
        if (due == null) {
            return answer(NO_WAY);
        }
        Departure x = departures.get(d);
        int was = x.delay;
        int slack = 0;
        for (int v = 1; v <= 99; v++) {
            x.delay = was + v;
            Integer then = soonest(a, b, t);
            if (then == null || then > due) {
                break;
            }
            slack = v;
        }
        x.delay = was;
        return answer(slack);
    }

    int why(int a, int b, int t, int i) {
        int bad = bad(a, b, time(t) && i >= 0);
        if (bad != 0) {
            return refuse(bad);
        }
        Model besides = new Model();
        besides.departures = new ArrayList<>();
        for (Departure d : departures) {
            Departure plain = new Departure();
            plain.line = d.line;
            plain.from = d.from;
            plain.to = d.to;
            plain.start = d.start;
            plain.takes = d.takes;
            besides.departures.add(plain);
        }
        besides.change = new ArrayList<>(change);
        besides.wait = new ArrayList<>(wait);
        List<Integer> reasons = new ArrayList<>();
        if (!hasWay(a, b, t)) {
            reasons.add(1);
            if (!besides.hasWay(a, b, t)) {
                reasons.add(2);
                besides.change.replaceAll(v -> 0);
                besides.wait.replaceAll(v -> -2);
                if (!besides.hasWay(a, b, t)) {
                    reasons.add(3);
                    if (!besides.hasWay(a, b, 0)) {
                        reasons.add(4);
                    }
                }
            }
        }
        return answer(i < reasons.size() ? reasons.get(i) : 0);
    }

    // ---- acts

    private void note(Back back) {
        acts.add(back);
        if (acts.size() > 10) {
            acts.remove(0);
        }
    }

    int cancel(int d) {
        return cancelled(d, true);
    }

    int run(int d) {
        return cancelled(d, false);
    }

    private int cancelled(int d, boolean then) {
        if (!isDeparture(d)) {
            return refuse(1);
        }
        Departure x = departures.get(d);
        if (x.cancelled == then) {
            return refuse(5);
        }
        x.cancelled = then;
        note(() -> x.cancelled = !then);
        return answer(running());
    }

    int delay(int d, int v) {
        if (!isDeparture(d)) {
            return refuse(1);
        }
        if (v < 0 || v > 99) {
            return refuse(2);
        }
        Departure x = departures.get(d);
        int was = x.delay;
        x.delay = v;
        note(() -> x.delay = was);
        return answer(was);
    }

    int change(int s, int v) {
        if (!isSpot(s)) {
            return refuse(1);
        }
        if (v < 0 || v > 99) {
            return refuse(2);
        }
        int was = change.set(s, v);
        note(() -> change.set(s, was));
        return answer(was);
    }

    int hold(int s, int v) {
        if (!isSpot(s)) {
            return refuse(1);
        }
        if (v < -1 || v > 999) {
            return refuse(2);
        }
        int was = wait.set(s, v == -1 ? -2 : v);
        note(() -> wait.set(s, was));
        return answer(was);
    }

    int extra(int line, int a, int b, int leaves, int takes) {
        if (line < 0 || line >= lines || a == b || !isSpot(a) || !isSpot(b)) {
            return refuse(1);
        }
        if (leaves < 0 || leaves > span || takes < 1 || takes > 99) {
            return refuse(2);
        }
        if (departures.size() == 120) {
            return refuse(3);
        }
        Departure x = new Departure();
        x.line = line;
        x.from = a;
        x.to = b;
        x.start = leaves;
        x.takes = takes;
        x.link = -2;
        departures.add(x);
        note(() -> departures.remove(x));
        return answer(departures.size() - 1);
    }

    boolean undo() {
        if (acts.isEmpty()) {
            trouble = 1;
            return false;
        }
        acts.remove(acts.size() - 1).go();
        trouble = 0;
        return true;
    }

    // ---- what is told

    int still(int i) {
        TreeSet<Integer> spots = new TreeSet<>();
        for (int s = 0; s < change.size(); s++) {
            spots.add(s);
        }
        for (Departure d : departures) {
            if (!d.cancelled) {
                spots.remove(d.from);
                spots.remove(d.to);
            }
        }
        List<Integer> row = new ArrayList<>(spots);
        if (i < 0 || i >= row.size()) {
            throw new NoSuchElementException();
        }
        return row.get(i);
    }

    int size(int what) {
        int late = 0;
        for (Departure d : departures) {
            late += d.delay != 0 ? 1 : 0;
        }
        int[] all = {tape.length(), acts.size(), late};
        return what < 0 || what > 2 ? NONE : all[what];
    }

    int trouble() {
        return trouble;
    }

    private int refuse(int number) {
        trouble = number;
        return NONE;
    }

    private int answer(int value) {
        trouble = 0;
        return value;
    }

    private boolean isSpot(int s) {
        return s >= 0 && s < change.size();
    }

    private boolean isDeparture(int d) {
        return d >= 0 && d < departures.size();
    }

    private int running() {
        int n = 0;
        for (Departure d : departures) {
            n += d.cancelled ? 0 : 1;
        }
        return n;
    }

    /** The text of a desk by patterns: all faults of each place are gathered, and the least one told. */
    static final class Grammar {
        int fault;
        int place;
        int span = -1;
        int links;
        final List<String> lines = new ArrayList<>();
        final List<Integer> change = new ArrayList<>();
        final List<Integer> wait = new ArrayList<>();
        final List<Departure> departures = new ArrayList<>();
        private final List<String> spots = new ArrayList<>();
        private final List<String> tokens = new ArrayList<>();
        private final List<Integer> places = new ArrayList<>();
        private final Map<String, Integer> values = new LinkedHashMap<>();

        Grammar(String text) {
            int at = 0;
            while (at < text.length()) {
                int stop = at + 1;
                if (letter(text.charAt(at))) {
                    while (stop < text.length() && letter(text.charAt(stop))) {
                        stop++;
                    }
                } else if (digit(text.charAt(at))) {
                    while (stop < text.length() && digit(text.charAt(stop))) {
                        stop++;
                    }
                }
                if (text.charAt(at) != ' ') {
                    tokens.add(text.substring(at, stop));
                    places.add(at);
                }
                at = stop;
            }
            tokens.add("");
            places.add(text.length());
        }

        private static boolean letter(char c) {
            return "abcdefghijklmnopqrstuvwxyz".indexOf(c) >= 0;
        }

        private static boolean digit(char c) {
            return "0123456789".indexOf(c) >= 0;
        }

        private static boolean isName(String token) {
            return token.matches("[a-z]{1,6}") && !token.matches("desk|spot|line|link");
        }

        /** What the pattern of a LINE asks behind its first word. */
        private static String pattern(String first) {
            switch (first) {
                case "desk":
                    return "span SPAN";
                case "spot":
                    return "NEW change CHANGE [wait WAIT]";
                case "line":
                    return "NEW";
                default:
                    return "LINE SPOT SPOT2 from FROM till TILL every EVERY takes TAKES";
            }
        }

        void parse() {
            int at = 0;
            boolean more = true;
            while (more) {
                String first = tokens.get(at);
                if (!first.matches("desk|spot|line|link")) {
                    tell(1, at);
                    return;
                }
                if (headFault(first) != 0) {
                    tell(headFault(first), at);
                    return;
                }
                at++;
                for (String part : pattern(first).split(" ")) {
                    if (part.startsWith("[") && !tokens.get(at).equals("wait")) {
                        values.put("WAIT", -2);
                        break;
                    }
                    part = part.replaceAll("[\\[\\]]", "");
                    int found = partFault(part, tokens.get(at));
                    if (found != 0) {
                        tell(found, at);
                        return;
                    }
                    at++;
                }
                keep(first, at);
                more = tokens.get(at).equals(";");
                if (more) {
                    at++;
                }
            }
            if (at != tokens.size() - 1) {
                tell(1, at);
            } else if (spots.isEmpty()) {
                tell(6, at);
            }
        }

        private void tell(int number, int at) {
            fault = number;
            place = places.get(at);
        }

        private int headFault(String first) {
            if (first.equals("desk")) {
                return span < 0 ? 0 : 3;
            }
            boolean many = first.equals("spot") && spots.size() == 10
                    || first.equals("line") && lines.size() == 8 || first.equals("link") && links == 12;
            return many ? 5 : span < 0 ? 6 : 0;
        }

        private int partFault(String part, String token) {
            if (Character.isLowerCase(part.charAt(0))) {
                return token.equals(part) ? 0 : 1;
            }
            switch (part) {
                case "NEW":
                    return !isName(token) ? 1 : spots.contains(token) || lines.contains(token) ? 3 : 0;
                case "LINE":
                    values.put(part, lines.indexOf(token));
                    return !isName(token) ? 1 : lines.contains(token) ? 0 : 2;
                case "SPOT":
                case "SPOT2":
                    values.put(part, spots.indexOf(token));
                    boolean twice = part.equals("SPOT2") && values.get("SPOT").equals(values.get("SPOT2"));
                    return !isName(token) ? 1 : !spots.contains(token) ? 2 : twice ? 3 : 0;
                default:
                    return wholeFault(part, token);
            }
        }

        private int wholeFault(String part, String token) {
            if (!token.matches("[0-9]{1,4}")) {
                return 1;
            }
            int v = Integer.parseInt(token);
            values.put(part, v);
            int least = part.matches("SPAN|EVERY|TAKES") ? 1 : part.equals("TILL") ? values.get("FROM") : 0;
            int most = part.matches("CHANGE|TAKES") ? 99 : part.matches("FROM|TILL") ? span : 999;
            if (v < least || v > most) {
                return 4;
            }
            if (part.equals("EVERY")) {
                int n = departures.size();
                for (int t = values.get("FROM"); t <= values.get("TILL"); t += v) {
                    n++;
                }
                return n > 120 ? 5 : 0;
            }
            return 0;
        }

        private void keep(String first, int at) {
            switch (first) {
                case "desk":
                    span = values.get("SPAN");
                    break;
                case "spot":
                    spots.add(tokens.get(at - (values.get("WAIT") == -2 ? 3 : 5)));
                    change.add(values.get("CHANGE"));
                    wait.add(values.get("WAIT"));
                    break;
                case "line":
                    lines.add(tokens.get(at - 1));
                    break;
                default:
                    for (int t = values.get("FROM"); t <= values.get("TILL"); t += values.get("EVERY")) {
                        Departure d = new Departure();
                        d.line = values.get("LINE");
                        d.from = values.get("SPOT");
                        d.to = values.get("SPOT2");
                        d.start = t;
                        d.takes = values.get("TAKES");
                        d.link = links;
                        departures.add(d);
                    }
                    links++;
                    break;
            }
        }
    }
}
