/**
 * A desk with no room left (term I: 10 spots, 8 lines, 120 departures; promises 6 to 46 on it): a ring,
 * each spot left every 9 ticks from 0 to 99, each ride 9 ticks, by two lines in turn. Going on is at once,
 * so that k spots on one is 9 k ticks later, if the last ride leaves by 99.
 */
public final class EdgesOfFullTest {
    private static final int SPOTS = 10;
    private static final int DEPARTURES = 120;
    private static final int EACH = 12;
    private static final int TICKS = 9;
    private static final int LAST_LEAVES = 99;

    public static void main(String[] args) {
        Bench.subject("a full desk");
        told();
        for (int t : new int[] {0, 1, 9, 18, 19, 90, 91, 99, 100, 1999}) {
            for (int a = 0; a < SPOTS; a++) {
                ways(a, t);
            }
        }
        longWay();
        ofAll();
        hanging();
        late();
        cancelled();
        Bench.subject("");
        Bench.end("EdgesOfFullTest");
    }

    private static String text() {
        StringBuilder text = new StringBuilder("desk span 99");
        for (int s = 0; s < SPOTS; s++) {
            text.append(";spot ").append((char) ('a' + s)).append(" change 0");
        }
        for (int l = 0; l < 8; l++) {
            text.append(";line ").append((char) ('r' + l));
        }
        for (int s = 0; s < SPOTS; s++) {
            text.append(";link ").append(s % 2 == 0 ? "r " : "y ").append((char) ('a' + s)).append(" ");
            text.append((char) ('a' + (s + 1) % SPOTS)).append(" from 0 till 99 every 9 takes 9");
        }
        return text.toString();
    }

    /** How many spots on b is from a. */
    private static int hops(int a, int b) {
        return (b - a + SPOTS) % SPOTS;
    }

    private static int firstLeaves(int t) {
        return (t + TICKS - 1) / TICKS * TICKS;
    }

    private static int due(int a, int b, int t) {
        if (a == b) {
            return t;
        }
        boolean goes = firstLeaves(t) + TICKS * (hops(a, b) - 1) <= LAST_LEAVES;
        return goes ? firstLeaves(t) + TICKS * hops(a, b) : -2;
    }

    private static LinkTimes ring() {
        return Bench.with(text());
    }

    private static void told() {
        LinkTimes x = ring();
        int[] about = {99, SPOTS, 8, 10, DEPARTURES, DEPARTURES};
        for (int what = 0; what < about.length; what++) {
            Bench.good(x, "about(" + what + ")", x.about(what), about[what]);
        }
        for (int s = 0; s < SPOTS; s++) {
            Bench.good(x, "spot(" + s + ", 2)", x.spot(s, 2), EACH);
            Bench.good(x, "spot(" + s + ", 3)", x.spot(s, 3), EACH);
        }
        for (int k = 0; k < DEPARTURES; k++) {
            // Of those that leave at once the numbers are 12 from one another.
            Bench.good(x, "ordered(" + k + ")", x.ordered(k), k % SPOTS * EACH + k / SPOTS);
        }
        Bench.refused(x, "ordered(120)", x.ordered(DEPARTURES), 1);
        Bench.good(x, "departure(119, 0)", x.departure(DEPARTURES - 1, 0), 7);
        Bench.refused(x, "departure(120, 0)", x.departure(DEPARTURES, 0), 1);
        Bench.due("still(0)", Bench.still(x, 0), -9);
    }

    private static void ways(int a, int t) {
        LinkTimes x = ring();
        for (int b = 0; b < SPOTS; b++) {
            String of = "(" + a + ", " + b + ", " + t + ")";
            int end = due(a, b, t);
            int rides = hops(a, b);
            int turns = Math.max(rides - 1, 0);
            Bench.good(x, "arrives" + of, x.arrives(a, b, t), end);
            Bench.good(x, "rides" + of, x.rides(a, b, t), end == -2 ? -2 : rides);
            Bench.good(x, "changes" + of, x.changes(a, b, t), end == -2 ? -2 : turns);
            Bench.good(x, "stands" + of, x.stands(a, b, t), end == -2 ? -2 : 0);
            Bench.good(x, "trades" + of, x.trades(a, b, t), end == -2 ? -2 : 1);
            Bench.good(x, "within 20" + of, x.within(a, b, t, 20), end);
            Bench.due("no WAY by needs" + of, x.needs(a, b, t, DEPARTURES - 1) == -3, end == -2);
        }
    }

    private static void longWay() {
        LinkTimes x = ring();
        Bench.good(x, "steps(9, 8): 0, 9, 18 and 27 leave in time", x.steps(9, 8), 4);
        Bench.good(x, "step(9, 8, 3, 1)", x.step(9, 8, 3, 1), 27 + 81);
        Bench.good(x, "quickest(9, 8)", x.quickest(9, 8), 81);
        Bench.good(x, "latest(9, 8, 1999)", x.latest(9, 8, 1999), 27);
        Bench.good(x, "spent(9, 8, 27, 27)", x.spent(9, 8, 27, 27), 81);
        Bench.good(x, "spent(9, 8, 27, 28)", x.spent(9, 8, 27, 28), -2);
        Bench.good(x, "others(9, 8, 0)", x.others(9, 8, 0), 4);
        Bench.good(x, "other(9, 8, 0, 3)", x.other(9, 8, 0, 3), 108);
        Bench.good(x, "others(9, 0, 0)", x.others(9, 0, 0), EACH);
    }

    private static void ofAll() {
        LinkTimes x = ring();
        Bench.good(x, "pairs(0)", x.pairs(0), 90);
        Bench.good(x, "pairs(99)", x.pairs(99), 10);
        Bench.good(x, "pairs(100)", x.pairs(100), 0);
        Bench.good(x, "slowest(0)", x.slowest(0), 81);
        Bench.good(x, "slowest(99)", x.slowest(99), 9);
        Bench.good(x, "slowest(100)", x.slowest(100), -2);
        Bench.good(x, "hub(0): all alike", x.hub(0), 0);
        Bench.good(x, "hub(99)", x.hub(99), -2);
        Bench.good(x, "round(9, 8, 0, 0)", x.round(9, 8, 0, 0), 90);
        for (int s = 0; s < SPOTS; s++) {
            Bench.good(x, "farthest(" + s + ", 0)", x.farthest(s, 0), (s + 9) % SPOTS);
            Bench.good(x, "reach(" + s + ", 0, 80)", x.reach(s, 0, 80), 1023 - (1 << (s + 9) % SPOTS));
            Bench.good(x, "reach(" + s + ", 0, 81)", x.reach(s, 0, 81), 1023);
            int far = (s + 5) % SPOTS;
            Bench.good(x, "meets(" + s + ", " + far + ", 0)", x.meets(s, far, 0), Math.min(s, far));
            int near = (s + 4) % SPOTS;
            Bench.good(x, "meets(" + s + ", " + near + ", 0)", x.meets(s, near, 0), near);
            Bench.good(x, "meets(" + near + ", " + s + ", 0)", x.meets(near, s, 0), near);
        }
    }

    private static void hanging() {
        LinkTimes x = ring();
        // From 9 to 8 one rides 108, 1, 14, 27, .. 92: without one of them all is 9 later.
        Bench.good(x, "vital(9, 8, 0)", x.vital(9, 8, 0), 9);
        Bench.good(x, "vital(9, 8, 27)", x.vital(9, 8, 27), 9);
        Bench.good(x, "needs(9, 8, 0, 108)", x.needs(9, 8, 0, 108), 9);
        Bench.good(x, "needs(9, 8, 27, 111)", x.needs(9, 8, 27, 111), -2);
        Bench.good(x, "slack(9, 8, 0, 108)", x.slack(9, 8, 0, 108), 0);
        Bench.good(x, "slack(9, 8, 0, 119)", x.slack(9, 8, 0, 119), 99);
        Bench.good(x, "slack(9, 0, 91, 119)", x.slack(9, 0, 91, 119), 0);
        Bench.good(x, "slack(8, 0, 0, 96): what leaves 9 then is too late", x.slack(8, 0, 0, 96), 0);
        x.hold(9, 0);
        Bench.good(x, "slack(8, 0, 0, 109): nobody who comes to 9 may wait", x.slack(8, 0, 0, 109), 0);
        x.undo();
        Bench.good(x, "why(9, 8, 27, 0)", x.why(9, 8, 27, 0), 0);
        Bench.good(x, "why(9, 8, 28, 2)", x.why(9, 8, 28, 2), 3);
        Bench.good(x, "why(9, 8, 28, 3)", x.why(9, 8, 28, 3), 0);
        x.change(9, 1);
        Bench.good(x, "arrives(8, 0, 0) with CHANGE 1 at 9", x.arrives(8, 0, 0), 27);
        Bench.good(x, "arrives(8, 0, 91) with CHANGE 1 at 9", x.arrives(8, 0, 91), -2);
        Bench.good(x, "why(8, 0, 90, 1) with CHANGE 1 at 9", x.why(8, 0, 90, 1), 2);
        Bench.good(x, "why(8, 0, 90, 2) with CHANGE 1 at 9", x.why(8, 0, 90, 2), 0);
        x.undo();
    }

    private static void late() {
        LinkTimes x = ring();
        Bench.refused(x, "extra() for the 121st", x.extra(0, 0, 1, 0, 1), 3);
        for (int d = 0; d < DEPARTURES; d++) {
            Bench.good(x, "delay(" + d + ", 99)", x.delay(d, 99), 0);
        }
        Bench.due("size(2)", x.size(2), DEPARTURES);
        Bench.good(x, "arrives(9, 8, 126): all later alike", x.arrives(9, 8, 126), 27 + 81 + 99);
        Bench.good(x, "arrives(9, 8, 127)", x.arrives(9, 8, 127), -2);
    }

    private static void cancelled() {
        LinkTimes x = ring();
        for (int d = 0; d < DEPARTURES; d++) {
            Bench.good(x, "cancel(" + d + ")", x.cancel(d), DEPARTURES - 1 - d);
        }
        Bench.good(x, "pairs(0) when none RUNS", x.pairs(0), 0);
        Bench.due("still(9) when none RUNS", Bench.still(x, 9), 9);
        Bench.due("still(10) when none RUNS", Bench.still(x, 10), -9);
    }
}
