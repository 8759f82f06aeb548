import java.util.ArrayList;
import java.util.Arrays;
import java.util.Comparator;
import java.util.List;
import java.util.TreeSet;
import java.util.function.Predicate;

/**
 * The Model for desks with far too many WAYS to write out. What is asked of a BEST WAY is found one
 * thing behind the other (when it ARRIVES; then its CHANGES; then when it LEAVES; ..), each by a table
 * of all departures and numbers of CHANGES.
 */
final class WideModel extends Model {
    private static final int NEVER = 9999;

    private List<Departure> byLeaves() {
        List<Departure> row = new ArrayList<>(departures);
        row.removeIf(x -> x.cancelled);
        row.sort(Comparator.comparingInt(Departure::leaves));
        return row;
    }

    /** Of each of a row of departures, which of the row one can ride behind it. */
    private List<List<Integer>> nextOf(List<Departure> row) {
        List<List<Integer>> all = new ArrayList<>();
        for (Departure x : row) {
            List<Integer> next = new ArrayList<>();
            for (int i = all.size() + 1; i < row.size(); i++) {
                if (follows(x, row.get(i))) {
                    next.add(i);
                }
            }
            all.add(next);
        }
        return all;
    }

    private int[][] emptyTable(int longest) {
        int[][] table = new int[departures.size()][longest];
        for (int[] row : table) {
            Arrays.fill(row, NEVER);
        }
        return table;
    }

    /** How many departures the longest row of all has. */
    private static int longest(List<List<Integer>> next) {
        int[] rides = new int[next.size()];
        int longest = 0;
        for (int i = rides.length - 1; i >= 0; i--) {
            for (int k : next.get(i)) {
                rides[i] = Math.max(rides[i], rides[k]);
            }
            rides[i]++;
            longest = Math.max(longest, rides[i]);
        }
        return longest;
    }

    /** By departure and CHANGES: the fewest departures of a row that begins with one of the first ones and ends with it. */
    private int[][] upTo(Predicate<Departure> first) {
        List<Departure> row = byLeaves();
        List<List<Integer>> next = nextOf(row);
        int[][] table = emptyTable(longest(next));
        for (int i = 0; i < row.size(); i++) {
            Departure x = row.get(i);
            int[] own = table[departures.indexOf(x)];
            if (first.test(x)) {
                own[0] = 1;
            }
            for (int k : next.get(i)) {
                join(own, table[departures.indexOf(row.get(k))], row.get(k).line == x.line ? 0 : 1);
            }
        }
        return table;
    }

    /** By departure and CHANGES: the fewest departures of a row that begins with it, and ARRIVES at b just then. */
    private int[][] onTo(int b, int end) {
        List<Departure> row = byLeaves();
        List<List<Integer>> next = nextOf(row);
        int[][] table = emptyTable(longest(next));
        for (int i = row.size() - 1; i >= 0; i--) {
            Departure x = row.get(i);
            int[] own = table[departures.indexOf(x)];
            if (x.to == b && x.arrives() == end) {
                own[0] = 1;
            }
            for (int k : next.get(i)) {
                join(table[departures.indexOf(row.get(k))], own, row.get(k).line == x.line ? 0 : 1);
            }
        }
        return table;
    }

    /** One ride more, with a CHANGE or without. */
    private static void join(int[] from, int[] into, int turn) {
        for (int c = 0; c + turn < into.length; c++) {
            if (from[c] < NEVER) {
                into[c + turn] = Math.min(into[c + turn], from[c] + 1);
            }
        }
    }

    private int[][] readyAt(int a, int t) {
        return upTo(x -> x.from == a && x.leaves() >= t);
    }

    private int[][] leavingAt(int a, int start) {
        return upTo(x -> x.from == a && x.leaves() == start);
    }

    /** The soonest end at b of rows with CHANGES from so many to so many. */
    private int soonestIn(int[][] table, int b, int least, int most) {
        int end = NEVER;
        for (int d = 0; d < table.length; d++) {
            Departure x = departures.get(d);
            for (int c = least; c <= most && c < table[d].length; c++) {
                if (x.to == b && table[d][c] < NEVER) {
                    end = Math.min(end, x.arrives());
                }
            }
        }
        return end;
    }

    /** The fewest departures of rows that end at b just then, with just so many CHANGES. */
    private int ridesIn(int[][] table, int b, int end, int turns) {
        int rides = NEVER;
        for (int d = 0; d < table.length; d++) {
            Departure x = departures.get(d);
            if (x.to == b && x.arrives() == end) {
                rides = Math.min(rides, table[d][turns]);
            }
        }
        return rides;
    }

    private int fewestTurns(int[][] table, int b, int end) {
        int turns = 0;
        while (ridesIn(table, b, end, turns) == NEVER) {
            turns++;
        }
        return turns;
    }

    /** When departures LEAVE a, not ahead of t; the last first. */
    private TreeSet<Integer> starts(int a, int t) {
        TreeSet<Integer> found = new TreeSet<>(Comparator.reverseOrder());
        for (Departure x : byLeaves()) {
            if (x.from == a && x.leaves() >= t) {
                found.add(x.leaves());
            }
        }
        return found;
    }

    private int lastStartOf(int a, int b, int t, int end, int turns) {
        for (int start : starts(a, t)) {
            if (ridesIn(leavingAt(a, start), b, end, turns) < NEVER) {
                return start;
            }
        }
        throw new IllegalStateException("a WAY of that pair was found");
    }

    @Override
    List<Integer> best(int a, int b, int t) {
        List<Integer> way = new ArrayList<>();
        if (a == b) {
            return way;
        }
        int[][] table = readyAt(a, t);
        int end = soonestIn(table, b, 0, NEVER);
        if (end == NEVER) {
            return null;
        }
        int turns = fewestTurns(table, b, end);
        int start = lastStartOf(a, b, t, end, turns);
        int rides = ridesIn(leavingAt(a, start), b, end, turns);
        int[][] rest = onTo(b, end);
        Departure last = null;
        while (rides > 0) {
            int d = 0;
            while (!goesOn(last, d, a, start, turns) || rest[d][turns - turn(last, d)] != rides) {
                d++;
            }
            turns -= turn(last, d);
            rides--;
            last = departures.get(d);
            way.add(d);
        }
        return way;
    }

    /** Whether a way that leaves a at its start can ride d now, with so many CHANGES left to it. */
    private boolean goesOn(Departure last, int d, int a, int start, int turnsLeft) {
        Departure x = departures.get(d);
        if (last == null) {
            return x.from == a && x.leaves() == start;
        }
        return follows(last, x) && turn(last, d) <= turnsLeft;
    }

    private int turn(Departure last, int d) {
        return last == null || last.line == departures.get(d).line ? 0 : 1;
    }

    @Override
    Integer soonest(int a, int b, int t) {
        int end = soonestWithin(a, b, t, NEVER);
        return end == NO_WAY ? null : Integer.valueOf(end);
    }

    @Override
    int soonestWithin(int a, int b, int t, int k) {
        int end = a == b ? t : soonestIn(readyAt(a, t), b, 0, k);
        return end == NEVER ? NO_WAY : end;
    }

    @Override
    List<int[]> bargains(int a, int b, int t) {
        List<int[]> found = new ArrayList<>();
        if (a == b) {
            found.add(new int[] {t, 0, t});
            return found;
        }
        int[][] table = readyAt(a, t);
        int soonest = NEVER;
        for (int turns = 0; turns < departures.size(); turns++) {
            int end = soonestIn(table, b, turns, turns);
            if (end < soonest) {
                soonest = end;
                found.add(new int[] {end, turns, lastStartOf(a, b, t, end, turns)});
            }
        }
        return found;
    }

    @Override
    List<int[]> profile(int a, int b) {
        List<int[]> found = new ArrayList<>();
        int soonest = NEVER;
        for (int start : starts(a, 0)) {
            int[][] table = leavingAt(a, start);
            int end = soonestIn(table, b, 0, NEVER);
            if (end < soonest) {
                soonest = end;
                found.add(0, new int[] {start, end, fewestTurns(table, b, end)});
            }
        }
        return found;
    }

    @Override
    int lastStart(int a, int b, int by) {
        for (int start : starts(a, 0)) {
            if (soonestIn(leavingAt(a, start), b, 0, NEVER) <= by) {
                return start;
            }
        }
        return NO_WAY;
    }

    @Override
    int ticks(int a, int b, int from, int till) {
        int sum = 0;
        TreeSet<Integer> starts = starts(a, 0);
        int end = NEVER;
        for (int t = from; t <= till; t++) {
            if (t == from || starts.contains(t - 1)) {
                end = soonestWithin(a, b, t, NEVER);
            }
            if (end == NO_WAY) {
                return NO_WAY;
            }
            sum += end - t;
        }
        return sum;
    }
}
