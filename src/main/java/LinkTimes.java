import java.util.NoSuchElementException;

/** A desk for timed links: a timetable told as a text, and questions about the ways through it. */
public final class LinkTimes {
    /** There is none; refused. */
    public static final int NONE = -1;

    private static final int FOUND = 0;
    private static final int NO_WAY = -2;
    private static final int NO_WAY_AT_ALL = -3;
    private static final int ANY = -2;
    private static final int BESIDES = -2;

    private static final int NONE_SUCH = 1;
    private static final int BAD_NUMBER = 2;
    private static final int NO_ROOM = 3;
    private static final int BY_FAULT = 4;
    private static final int NOT_SO = 5;

    private static final int TAPE_ROOM = 900;
    private static final int FEED_BYTES = 20;
    private static final int MOST_SPOTS = 10;
    private static final int MOST_LINES = 8;
    private static final int MOST_LINKS = 12;
    private static final int MOST_DEPARTURES = 120;
    private static final int MOST_CHANGE = 99;
    private static final int MOST_WAIT = 999;
    private static final int MOST_TAKES = 99;
    private static final int MOST_DELAY = 99;
    private static final int MOST_STAY = 999;
    private static final int MOST_TURNS_ASKED = 20;
    private static final int LAST_TIME = 1999;
    /** Later than any departure can arrive: stands for never. */
    private static final int FAR = 1000000;

    private final byte[] tape;
    private int used;
    private Desk current;
    private Desk draft;
    private final Reader reader;
    private final Log log;
    private final Net net;
    private final Search search;
    private final Flood flood;
    private final Flood mateFlood;
    private final Steps profile;
    private final Bargains bargains;
    private int refusal;
    private int lastFault;
    private int faultPlace;

    public LinkTimes() {
        tape = new byte[TAPE_ROOM];
        current = new Desk();
        draft = new Desk();
        reader = new Reader(tape, draft);
        log = new Log();
        net = new Net(current);
        search = new Search();
        flood = new Flood();
        mateFlood = new Flood();
        profile = new Steps();
        bargains = new Bargains();
    }

    // ---- the desk

    public int feed(int a, int b, int c, int d, int e) {
        if (used + FEED_BYTES > TAPE_ROOM) {
            return NONE;
        }
        putBytes(a);
        putBytes(b);
        putBytes(c);
        putBytes(d);
        putBytes(e);
        return used;
    }

    private void putBytes(int number) {
        for (int shift = 24; shift >= 0 && used < TAPE_ROOM; shift -= 8) {
            tape[used] = (byte) (number >> shift);
            used++;
        }
    }

    public int desk(int n) {
        if (n < 0 || n > used) {
            return refuse(BAD_NUMBER);
        }
        used = 0;
        boolean good = reader.read(n, draft);
        lastFault = reader.fault;
        faultPlace = reader.place;
        if (!good) {
            return refuse(BY_FAULT);
        }
        Desk old = current;
        current = draft;
        draft = old;
        log.clear();
        return answer(current.count);
    }

    public int fault() {
        return lastFault;
    }

    public int where() {
        return refusal == BY_FAULT ? faultPlace : NONE;
    }

    public int about(int what) {
        if (!current.isTold()) {
            return refuse(NONE_SUCH);
        }
        switch (what) {
            case 0:
                return answer(current.span);
            case 1:
                return answer(current.spotCount);
            case 2:
                return answer(current.lineCount);
            case 3:
                return answer(current.linkCount);
            case 4:
                return answer(current.count);
            case 5:
                return answer(current.runningCount());
            default:
                return refuse(NONE_SUCH);
        }
    }

    public int spot(int s, int what) {
        if (!current.hasSpot(s)) {
            return refuse(NONE_SUCH);
        }
        switch (what) {
            case 0:
                return answer(current.gap[s]);
            case 1:
                return answer(current.patience[s]);
            case 2:
                return answer(current.countFrom(s));
            case 3:
                return answer(current.countTo(s));
            default:
                return refuse(NONE_SUCH);
        }
    }

    public int departure(int d, int what) {
        if (!current.hasDeparture(d)) {
            return refuse(NONE_SUCH);
        }
        switch (what) {
            case 0:
                return answer(current.line[d]);
            case 1:
                return answer(current.from[d]);
            case 2:
                return answer(current.to[d]);
            case 3:
                return answer(current.start[d] + current.late[d]);
            case 4:
                return answer(current.start[d] + current.late[d] + current.lasts[d]);
            case 5:
                return answer(current.late[d]);
            case 6:
                return answer(current.off[d] ? 0 : 1);
            case 7:
                return answer(current.link[d]);
            default:
                return refuse(NONE_SUCH);
        }
    }

    public int ordered(int k) {
        net.load(current);
        int seen = 0;
        for (int i = 0; i < net.count && k >= 0; i++) {
            int d = net.order[i];
            if (net.runs[d]) {
                if (seen == k) {
                    return answer(d);
                }
                seen++;
            }
        }
        return refuse(NONE_SUCH);
    }

    // ---- the BEST WAY

    public int arrives(int a, int b, int t) {
        int got = seekBest(a, b, t);
        return got == FOUND ? search.way.end : got;
    }

    public int changes(int a, int b, int t) {
        int got = seekBest(a, b, t);
        return got == FOUND ? search.way.turns : got;
    }

    public int leaves(int a, int b, int t) {
        int got = seekBest(a, b, t);
        return got == FOUND ? search.way.start : got;
    }

    public int rides(int a, int b, int t) {
        int got = seekBest(a, b, t);
        return got == FOUND ? search.way.count : got;
    }

    public int ride(int a, int b, int t, int i) {
        int got = seekBest(a, b, t);
        if (got != FOUND) {
            return got;
        }
        if (i < 0 || i >= search.way.count) {
            return refuse(NONE_SUCH);
        }
        return search.way.row[i];
    }

    public int stands(int a, int b, int t) {
        int got = seekBest(a, b, t);
        return got == FOUND ? search.way.idleTicks(net) : got;
    }

    public int trades(int a, int b, int t) {
        int got = seekTrades(a, b, t, MOST_DEPARTURES);
        return got == FOUND ? bargains.count : got;
    }

    public int trade(int a, int b, int t, int i, int what) {
        int got = seekTrades(a, b, t, MOST_DEPARTURES);
        if (got != FOUND) {
            return got;
        }
        if (i < 0 || i >= bargains.count) {
            return refuse(NONE_SUCH);
        }
        switch (what) {
            case 0:
                return bargains.ends[i];
            case 1:
                return bargains.turns[i];
            case 2:
                return bargains.starts[i];
            default:
                return refuse(NONE_SUCH);
        }
    }

    public int within(int a, int b, int t, int k) {
        if (isRefused(lookAtPair(a, b, isTime(t) && k >= 0 && k <= MOST_TURNS_ASKED))) {
            return NONE;
        }
        int got = seekTrades(a, b, t, k);
        // The last bargain is the one that arrives first.
        return got == FOUND ? bargains.ends[bargains.count - 1] : got;
    }

    // ---- other questions

    public int latest(int a, int b, int by) {
        if (isRefused(lookAtPair(a, b, isTime(by)))) {
            return NONE;
        }
        if (a == b) {
            return answer(by);
        }
        collectSteps(a, b);
        return answer(profile.lastStartFor(by));
    }

    public int reach(int a, int t, int by) {
        if (isRefused(lookAtPair(a, a, isTime(t) && isTime(by)))) {
            return NONE;
        }
        net.load(current);
        flood.spread(net, a, t);
        int bits = 0;
        for (int s = 0; s < current.spotCount; s++) {
            if (flood.soonest[s] <= by) {
                bits |= 1 << s;
            }
        }
        return answer(bits);
    }

    public int farthest(int a, int t) {
        if (isRefused(lookAtPair(a, a, isTime(t)))) {
            return NONE;
        }
        net.load(current);
        flood.spread(net, a, t);
        int last = a;
        int lastEnd = NONE;
        for (int s = 0; s < current.spotCount; s++) {
            int end = flood.soonest[s];
            if (end < FAR && end > lastEnd) {
                last = s;
                lastEnd = end;
            }
        }
        return answer(last);
    }

    public int meets(int a, int b, int t) {
        if (isRefused(lookAtPair(a, b, isTime(t)))) {
            return NONE;
        }
        net.load(current);
        flood.spread(net, a, t);
        mateFlood.spread(net, b, t);
        int place = NO_WAY;
        int soonest = FAR;
        for (int s = 0; s < current.spotCount; s++) {
            int both = Math.max(flood.soonest[s], mateFlood.soonest[s]);
            if (both < soonest) {
                soonest = both;
                place = s;
            }
        }
        return answer(place);
    }

    public int round(int a, int b, int t, int stay) {
        if (isRefused(lookAtPair(a, b, isTime(t) && stay >= 0 && stay <= MOST_STAY))) {
            return NONE;
        }
        net.load(current);
        int there = soonestAt(a, b, t);
        if (there == FAR) {
            return answer(NO_WAY);
        }
        int back = soonestAt(b, a, there + stay);
        return answer(back == FAR ? NO_WAY : back);
    }

    public int steps(int a, int b) {
        if (!hasUnlikeSpots(a, b)) {
            return refuse(NONE_SUCH);
        }
        collectSteps(a, b);
        return answer(profile.count);
    }

    public int step(int a, int b, int i, int what) {
        if (!hasUnlikeSpots(a, b)) {
            return refuse(NONE_SUCH);
        }
        collectSteps(a, b);
        if (i < 0 || i >= profile.count) {
            return refuse(NONE_SUCH);
        }
        // The profile is gathered from the last one to leave to the first.
        int k = profile.count - 1 - i;
        switch (what) {
            case 0:
                return answer(profile.starts[k]);
            case 1:
                return answer(profile.ends[k]);
            case 2:
                return answer(profile.turns[k]);
            default:
                return refuse(NONE_SUCH);
        }
    }

    public int quickest(int a, int b) {
        if (!hasUnlikeSpots(a, b)) {
            return refuse(NONE_SUCH);
        }
        collectSteps(a, b);
        return answer(profile.leastTicks());
    }

    public int spent(int a, int b, int from, int till) {
        if (!hasUnlikeSpots(a, b)) {
            return refuse(NONE_SUCH);
        }
        if (!isTime(from) || !isTime(till) || till < from) {
            return refuse(BAD_NUMBER);
        }
        collectSteps(a, b);
        return answer(profile.ticksOver(from, till));
    }

    public int others(int a, int b, int t) {
        if (isRefused(lookAtUnlike(a, b, t))) {
            return NONE;
        }
        net.load(current);
        int ways = 0;
        while (ways < MOST_DEPARTURES && search.findBest(net, a, b, t)) {
            ways++;
            net.dropAll(search.way);
        }
        return answer(ways);
    }

    public int other(int a, int b, int t, int i) {
        if (isRefused(lookAtUnlike(a, b, t))) {
            return NONE;
        }
        if (i < 0 || i >= MOST_DEPARTURES) {
            return refuse(NONE_SUCH);
        }
        net.load(current);
        for (int k = 0; k <= i; k++) {
            if (!search.findBest(net, a, b, t)) {
                return refuse(NONE_SUCH);
            }
            net.dropAll(search.way);
        }
        return answer(search.way.end);
    }

    public int pairs(int t) {
        if (isRefused(lookAtDesk(t))) {
            return NONE;
        }
        net.load(current);
        int found = 0;
        for (int a = 0; a < current.spotCount; a++) {
            flood.spread(net, a, t);
            for (int b = 0; b < current.spotCount; b++) {
                if (a != b && flood.soonest[b] < FAR) {
                    found++;
                }
            }
        }
        return answer(found);
    }

    public int hub(int t) {
        if (isRefused(lookAtDesk(t))) {
            return NONE;
        }
        net.load(current);
        search.countTurns(net, t);
        int busiest = NO_WAY;
        int most = 0;
        for (int s = 0; s < current.spotCount; s++) {
            if (search.turnsAt[s] > most) {
                most = search.turnsAt[s];
                busiest = s;
            }
        }
        return answer(busiest);
    }

    public int slowest(int t) {
        if (isRefused(lookAtDesk(t))) {
            return NONE;
        }
        net.load(current);
        int most = NO_WAY;
        for (int a = 0; a < current.spotCount; a++) {
            flood.spread(net, a, t);
            for (int b = 0; b < current.spotCount; b++) {
                if (a != b && flood.soonest[b] < FAR) {
                    most = Math.max(most, flood.soonest[b] - t);
                }
            }
        }
        return answer(most);
    }

    // ---- what a way hangs on

    public int needs(int a, int b, int t, int d) {
        if (isRefused(lookAtHanging(a, b, t, d))) {
            return NONE;
        }
        net.load(current);
        int end = soonestAt(a, b, t);
        if (end == FAR) {
            return answer(NO_WAY_AT_ALL);
        }
        net.setRuns(d, false);
        int without = soonestAt(a, b, t);
        return answer(without == FAR ? NO_WAY : without - end);
    }

    public int vital(int a, int b, int t) {
        int got = seekBest(a, b, t);
        if (got != FOUND) {
            return got;
        }
        // Without a departure that the BEST WAY doesn't ride, that way stays: only its own can be vital.
        Way way = search.way;
        int found = 0;
        for (int i = 0; i < way.count; i++) {
            net.setRuns(way.row[i], false);
            if (soonestAt(a, b, t) > way.end) {
                found++;
            }
            net.setRuns(way.row[i], true);
        }
        return found;
    }

    public int slack(int a, int b, int t, int d) {
        if (isRefused(lookAtHanging(a, b, t, d))) {
            return NONE;
        }
        net.load(current);
        int end = soonestAt(a, b, t);
        if (end == FAR) {
            return answer(NO_WAY);
        }
        net.setRuns(d, false);
        if (soonestAt(a, b, t) == end) {
            // Another way arrives as soon, whenever this departure leaves.
            return answer(MOST_DELAY);
        }
        // All ways that arrive by then ride it once; what they ride ahead of it and behind it leaves as before.
        search.aim(net, b);
        for (int later = 0; later < MOST_DELAY; later++) {
            net.putOff(d);
            if (!flood.canRide(net, d, a, t) || !search.getsThere(net, d, b, end)) {
                return answer(later);
            }
        }
        return answer(MOST_DELAY);
    }

    public int why(int a, int b, int t, int i) {
        if (isRefused(lookAtPair(a, b, isTime(t) && i >= 0))) {
            return NONE;
        }
        return answer(i < countReasons(a, b, t) ? i + 1 : 0);
    }

    private int countReasons(int a, int b, int t) {
        net.load(current);
        if (soonestAt(a, b, t) < FAR) {
            return 0;
        }
        net.loadAsTold(current);
        if (soonestAt(a, b, t) < FAR) {
            return 1;
        }
        net.ease();
        if (soonestAt(a, b, t) < FAR) {
            return 2;
        }
        return soonestAt(a, b, 0) < FAR ? 3 : 4;
    }

    // ---- acts

    public int cancel(int d) {
        return setOff(d, true);
    }

    public int run(int d) {
        return setOff(d, false);
    }

    private int setOff(int d, boolean off) {
        if (!current.hasDeparture(d)) {
            return refuse(NONE_SUCH);
        }
        if (current.off[d] == off) {
            return refuse(NOT_SO);
        }
        log.note(Log.OFF, d, current.off[d] ? 1 : 0);
        current.off[d] = off;
        return answer(current.runningCount());
    }

    public int delay(int d, int v) {
        if (!current.hasDeparture(d)) {
            return refuse(NONE_SUCH);
        }
        if (v < 0 || v > MOST_DELAY) {
            return refuse(BAD_NUMBER);
        }
        int was = current.late[d];
        log.note(Log.LATE, d, was);
        current.late[d] = v;
        return answer(was);
    }

    public int change(int s, int v) {
        if (!current.hasSpot(s)) {
            return refuse(NONE_SUCH);
        }
        if (v < 0 || v > MOST_CHANGE) {
            return refuse(BAD_NUMBER);
        }
        int was = current.gap[s];
        log.note(Log.GAP, s, was);
        current.gap[s] = v;
        return answer(was);
    }

    public int hold(int s, int v) {
        if (!current.hasSpot(s)) {
            return refuse(NONE_SUCH);
        }
        if (v < -1 || v > MOST_WAIT) {
            return refuse(BAD_NUMBER);
        }
        int was = current.patience[s];
        log.note(Log.PATIENCE, s, was);
        current.patience[s] = v == -1 ? ANY : v;
        return answer(was);
    }

    public int extra(int line, int a, int b, int leaves, int takes) {
        if (!current.hasLine(line) || !hasUnlikeSpots(a, b)) {
            return refuse(NONE_SUCH);
        }
        if (leaves < 0 || leaves > current.span || takes < 1 || takes > MOST_TAKES) {
            return refuse(BAD_NUMBER);
        }
        if (current.count >= MOST_DEPARTURES) {
            return refuse(NO_ROOM);
        }
        current.addDeparture(line, a, b, leaves, takes, BESIDES);
        log.note(Log.EXTRA, current.count - 1, 0);
        return answer(current.count - 1);
    }

    public boolean undo() {
        if (log.kept == 0) {
            refusal = NONE_SUCH;
            return false;
        }
        log.takeBack(current);
        refusal = 0;
        return true;
    }

    // ---- what is told

    public int still(int i) throws NoSuchElementException {
        int seen = 0;
        for (int s = 0; s < current.spotCount && i >= 0; s++) {
            if (current.countFrom(s) == 0 && current.countTo(s) == 0) {
                if (seen == i) {
                    return s;
                }
                seen++;
            }
        }
        throw new NoSuchElementException();
    }

    public int size(int what) {
        switch (what) {
            case 0:
                return used;
            case 1:
                return log.kept;
            case 2:
                return current.lateCount();
            default:
                return NONE;
        }
    }

    public int trouble() {
        return refusal;
    }

    // ---- what the calls share

    private int refuse(int number) {
        refusal = number;
        return NONE;
    }

    private boolean isRefused(int number) {
        refusal = number;
        return number != 0;
    }

    private int answer(int value) {
        refusal = 0;
        return value;
    }

    private static boolean isTime(int t) {
        return t >= 0 && t <= LAST_TIME;
    }

    private boolean hasUnlikeSpots(int a, int b) {
        return a != b && current.hasSpot(a) && current.hasSpot(b);
    }

    /** The refusal due to spots, or to numbers that the caller has looked at; 0 if all is well. */
    private int lookAtPair(int a, int b, boolean goodNumbers) {
        if (!current.hasSpot(a) || !current.hasSpot(b)) {
            return NONE_SUCH;
        }
        return goodNumbers ? 0 : BAD_NUMBER;
    }

    private int lookAtUnlike(int a, int b, int t) {
        if (!hasUnlikeSpots(a, b)) {
            return NONE_SUCH;
        }
        return isTime(t) ? 0 : BAD_NUMBER;
    }

    private int lookAtHanging(int a, int b, int t, int d) {
        if (!current.hasDeparture(d)) {
            return NONE_SUCH;
        }
        return lookAtPair(a, b, isTime(t));
    }

    private int lookAtDesk(int t) {
        if (!current.isTold()) {
            return NONE_SUCH;
        }
        return isTime(t) ? 0 : BAD_NUMBER;
    }

    /** FOUND with the BEST WAY in search.way; else the answer that is due instead. */
    private int seekBest(int a, int b, int t) {
        if (isRefused(lookAtPair(a, b, isTime(t)))) {
            return NONE;
        }
        net.load(current);
        return answer(search.findBest(net, a, b, t) ? FOUND : NO_WAY);
    }

    /** FOUND with the pairs of up to so many changes in bargains; else the answer that is due instead. */
    private int seekTrades(int a, int b, int t, int mostTurns) {
        if (isRefused(lookAtPair(a, b, isTime(t)))) {
            return NONE;
        }
        net.load(current);
        bargains.collect(net, a, b, t, mostTurns);
        return answer(bargains.count > 0 ? FOUND : NO_WAY);
    }

    private void collectSteps(int a, int b) {
        net.load(current);
        search.aim(net, b);
        profile.collect(net, search, a);
    }

    /** When one can be at b in the net as it is loaded; FAR if never. */
    private int soonestAt(int a, int b, int t) {
        flood.spread(net, a, t);
        return flood.soonest[b];
    }

    /** What the text tells and acts change. */
    private static final class Desk {
        int span;
        int spotCount;
        int lineCount;
        int linkCount;
        int count;
        final int[] gap = new int[MOST_SPOTS];
        final int[] patience = new int[MOST_SPOTS];
        final int[] line = new int[MOST_DEPARTURES];
        final int[] from = new int[MOST_DEPARTURES];
        final int[] to = new int[MOST_DEPARTURES];
        final int[] start = new int[MOST_DEPARTURES];
        final int[] lasts = new int[MOST_DEPARTURES];
        final int[] late = new int[MOST_DEPARTURES];
        final int[] link = new int[MOST_DEPARTURES];
        final boolean[] off = new boolean[MOST_DEPARTURES];

        void clear() {
            span = 0;
            spotCount = 0;
            lineCount = 0;
            linkCount = 0;
            count = 0;
        }

        /** A desk without a spot is refused as a fault, so spots tell that there is one. */
        boolean isTold() {
            return spotCount > 0;
        }

        boolean hasSpot(int s) {
            return s >= 0 && s < spotCount;
        }

        boolean hasLine(int l) {
            return l >= 0 && l < lineCount;
        }

        boolean hasDeparture(int d) {
            return d >= 0 && d < count;
        }

        void addSpot(int changeTicks, int waitTicks) {
            if (spotCount < MOST_SPOTS) {
                gap[spotCount] = changeTicks;
                patience[spotCount] = waitTicks;
                spotCount++;
            }
        }

        void addDeparture(int ofLine, int a, int b, int time, int ticks, int ofLink) {
            if (count < MOST_DEPARTURES) {
                line[count] = ofLine;
                from[count] = a;
                to[count] = b;
                start[count] = time;
                lasts[count] = ticks;
                late[count] = 0;
                link[count] = ofLink;
                off[count] = false;
                count++;
            }
        }

        int runningCount() {
            int found = 0;
            for (int d = 0; d < count; d++) {
                found += off[d] ? 0 : 1;
            }
            return found;
        }

        int lateCount() {
            int found = 0;
            for (int d = 0; d < count; d++) {
                found += late[d] > 0 ? 1 : 0;
            }
            return found;
        }

        int countFrom(int s) {
            int found = 0;
            for (int d = 0; d < count; d++) {
                found += !off[d] && from[d] == s ? 1 : 0;
            }
            return found;
        }

        int countTo(int s) {
            int found = 0;
            for (int d = 0; d < count; d++) {
                found += !off[d] && to[d] == s ? 1 : 0;
            }
            return found;
        }
    }

    /** Reads a text into a desk, up to the first fault. */
    private static final class Reader {
        private static final int WORD = 1;
        private static final int WHOLE = 2;
        private static final int SEMICOLON = 3;
        private static final int END = 4;
        private static final int NO_TOKEN = 5;

        private static final int FORM = 1;
        private static final int UNTOLD = 2;
        private static final int AGAIN = 3;
        private static final int BOUNDS = 4;
        private static final int MANY = 5;
        private static final int LACKS = 6;

        private static final int MOST_LETTERS = 6;
        private static final int MOST_DIGITS = 4;
        private static final int MOST_SPAN = 999;
        private static final int MOST_EVERY = 999;

        int fault;
        int place;
        private final byte[] text;
        private int length;
        private Desk desk;
        private final int[] spotNames = new int[MOST_SPOTS];
        private final int[] lineNames = new int[MOST_LINES];
        private int linkLine;
        private int linkFrom;
        private int linkTo;
        private int kind;
        private int start;
        private int stop;
        /** Of a WHOLE its number; of a WORD its letters as digits of base 27. */
        private int value;

        Reader(byte[] tape, Desk first) {
            text = tape;
            desk = first;
        }

        boolean read(int n, Desk into) {
            length = Math.min(n, text.length);
            desk = into;
            desk.clear();
            fault = 0;
            place = NONE;
            stop = 0;
            boolean good = readLine();
            for (int k = 0; good && kind == SEMICOLON && k < length; k++) {
                good = readLine();
            }
            if (!good) {
                return false;
            }
            if (kind != END) {
                return fail(FORM);
            }
            return desk.isTold() || fail(LACKS);
        }

        private boolean fail(int number) {
            fault = number;
            place = start;
            return false;
        }

        /** Reads one LINE and the token behind it. */
        private boolean readLine() {
            advance();
            if (isWord("desk")) {
                return desk.span > 0 ? fail(AGAIN) : readSpan();
            }
            if (isWord("spot")) {
                return hasRoom(desk.spotCount, MOST_SPOTS) && readSpot();
            }
            if (isWord("line")) {
                return hasRoom(desk.lineCount, MOST_LINES) && readName();
            }
            if (isWord("link")) {
                return hasRoom(desk.linkCount, MOST_LINKS) && readEnds() && readTimes();
            }
            return fail(FORM);
        }

        private boolean hasRoom(int told, int most) {
            if (desk.span == 0) {
                return fail(LACKS);
            }
            return told < most || fail(MANY);
        }

        private boolean readSpan() {
            if (!expectWord("span") || !expectWhole(1, MOST_SPAN)) {
                return false;
            }
            desk.span = value;
            advance();
            return true;
        }

        private boolean readSpot() {
            if (!expectNewName()) {
                return false;
            }
            int name = value;
            if (!expectWord("change") || !expectWhole(0, MOST_CHANGE)) {
                return false;
            }
            int changeTicks = value;
            int waitTicks = ANY;
            advance();
            if (isWord("wait")) {
                if (!expectWhole(0, MOST_WAIT)) {
                    return false;
                }
                waitTicks = value;
                advance();
            }
            spotNames[desk.spotCount] = name;
            desk.addSpot(changeTicks, waitTicks);
            return true;
        }

        private boolean readName() {
            if (!expectNewName()) {
                return false;
            }
            lineNames[desk.lineCount] = value;
            desk.lineCount++;
            advance();
            return true;
        }

        /** Of a link its LINE and its two SPOTS. */
        private boolean readEnds() {
            linkLine = expectTold(lineNames, desk.lineCount);
            if (linkLine == NONE) {
                return false;
            }
            linkFrom = expectTold(spotNames, desk.spotCount);
            if (linkFrom == NONE) {
                return false;
            }
            linkTo = expectTold(spotNames, desk.spotCount);
            if (linkTo == NONE) {
                return false;
            }
            return linkTo != linkFrom || fail(AGAIN);
        }

        /** Of a link what stands behind its ends. */
        private boolean readTimes() {
            if (!expectWord("from") || !expectWhole(0, desk.span)) {
                return false;
            }
            int from = value;
            if (!expectWord("till") || !expectWhole(from, desk.span)) {
                return false;
            }
            int till = value;
            if (!expectWord("every") || !expectWhole(1, MOST_EVERY)) {
                return false;
            }
            int every = Math.max(value, 1);
            if (desk.count + (till - from) / every + 1 > MOST_DEPARTURES) {
                return fail(MANY);
            }
            if (!expectWord("takes") || !expectWhole(1, MOST_TAKES)) {
                return false;
            }
            for (int time = from; time <= till; time += every) {
                desk.addDeparture(linkLine, linkFrom, linkTo, time, value, desk.linkCount);
            }
            desk.linkCount++;
            advance();
            return true;
        }

        private boolean expectWord(String word) {
            advance();
            return isWord(word) || fail(FORM);
        }

        private boolean expectWhole(int least, int most) {
            advance();
            if (kind != WHOLE) {
                return fail(FORM);
            }
            return value >= least && value <= most || fail(BOUNDS);
        }

        private boolean expectNewName() {
            advance();
            if (!isName()) {
                return fail(FORM);
            }
            boolean known = find(spotNames, desk.spotCount) != NONE
                    || find(lineNames, desk.lineCount) != NONE;
            return !known || fail(AGAIN);
        }

        private int expectTold(int[] names, int told) {
            advance();
            if (!isName()) {
                fail(FORM);
                return NONE;
            }
            int found = find(names, told);
            if (found == NONE) {
                fail(UNTOLD);
            }
            return found;
        }

        private int find(int[] names, int told) {
            for (int i = 0; i < told && i < names.length; i++) {
                if (names[i] == value) {
                    return i;
                }
            }
            return NONE;
        }

        private boolean isName() {
            return kind == WORD && !isWord("desk") && !isWord("spot")
                    && !isWord("line") && !isWord("link");
        }

        private boolean isWord(String word) {
            if (kind != WORD || stop - start != word.length()) {
                return false;
            }
            for (int i = 0; i < word.length(); i++) {
                if (text[start + i] != word.charAt(i)) {
                    return false;
                }
            }
            return true;
        }

        /** Goes on to the next token; behind the last one to the end. */
        private void advance() {
            while (stop < length && text[stop] == ' ') {
                stop++;
            }
            start = stop;
            value = 0;
            if (stop >= length) {
                kind = END;
            } else if (text[stop] == ';') {
                kind = SEMICOLON;
                stop++;
            } else if (isLetter(text[stop])) {
                takeWord();
            } else if (isDigit(text[stop])) {
                takeWhole();
            } else {
                kind = NO_TOKEN;
            }
        }

        private void takeWord() {
            while (stop < length && isLetter(text[stop])) {
                value = value * 27 + text[stop] - 'a' + 1;
                stop++;
            }
            kind = stop - start <= MOST_LETTERS ? WORD : NO_TOKEN;
        }

        private void takeWhole() {
            while (stop < length && isDigit(text[stop])) {
                value = value * 10 + text[stop] - '0';
                stop++;
            }
            kind = stop - start <= MOST_DIGITS ? WHOLE : NO_TOKEN;
        }

        private static boolean isLetter(int sign) {
            return sign >= 'a' && sign <= 'z';
        }

        private static boolean isDigit(int sign) {
            return sign >= '0' && sign <= '9';
        }
    }

    /** The latest acts, each with what was ahead of it. */
    private static final class Log {
        static final int OFF = 0;
        static final int LATE = 1;
        static final int GAP = 2;
        static final int PATIENCE = 3;
        static final int EXTRA = 4;
        private static final int MOST_KEPT = 10;

        int kept;
        private final int[] kinds = new int[MOST_KEPT];
        private final int[] whose = new int[MOST_KEPT];
        private final int[] was = new int[MOST_KEPT];

        void clear() {
            kept = 0;
        }

        void note(int kind, int number, int before) {
            if (kept == MOST_KEPT) {
                forgetOldest();
            }
            kinds[kept] = kind;
            whose[kept] = number;
            was[kept] = before;
            kept++;
        }

        private void forgetOldest() {
            for (int i = 1; i < kept; i++) {
                kinds[i - 1] = kinds[i];
                whose[i - 1] = whose[i];
                was[i - 1] = was[i];
            }
            kept--;
        }

        void takeBack(Desk desk) {
            if (kept == 0) {
                return;
            }
            kept--;
            int number = whose[kept];
            switch (kinds[kept]) {
                case OFF:
                    desk.off[number] = was[kept] == 1;
                    break;
                case LATE:
                    desk.late[number] = was[kept];
                    break;
                case GAP:
                    desk.gap[number] = was[kept];
                    break;
                case PATIENCE:
                    desk.patience[number] = was[kept];
                    break;
                default:
                    // Acts are undone from the latest on, so the departure that came besides is the last one.
                    desk.count = number;
                    break;
            }
        }
    }

    /** The departures as a question sees them: a desk's own, or as they would be if .. */
    private static final class Net {
        int count;
        final int[] leave = new int[MOST_DEPARTURES];
        final int[] arrive = new int[MOST_DEPARTURES];
        final boolean[] runs = new boolean[MOST_DEPARTURES];
        /** All departures, those that don't run too, by the time at which they leave. */
        final int[] order = new int[MOST_DEPARTURES];
        /** The same, spot by spot from which they leave: those of s from first[s] to ahead of first[s + 1]. */
        final int[] bySpot = new int[MOST_DEPARTURES];
        final int[] first = new int[MOST_SPOTS + 1];
        Desk desk;
        private final int[] gap = new int[MOST_SPOTS];
        private final int[] patience = new int[MOST_SPOTS];

        Net(Desk firstDesk) {
            desk = firstDesk;
        }

        void load(Desk from) {
            take(from, false);
        }

        /** As if all departures ran, without delays. */
        void loadAsTold(Desk from) {
            take(from, true);
        }

        private void take(Desk from, boolean asTold) {
            desk = from;
            for (int s = 0; s < desk.spotCount; s++) {
                gap[s] = desk.gap[s];
                patience[s] = desk.patience[s];
            }
            keepOrder(desk.count);
            for (int d = 0; d < count; d++) {
                leave[d] = desk.start[d] + (asTold ? 0 : desk.late[d]);
                arrive[d] = leave[d] + desk.lasts[d];
                runs[d] = asTold || !desk.off[d];
            }
            sort();
            group();
        }

        /** As if one could change at once and wait as long as one likes, anywhere. */
        void ease() {
            for (int s = 0; s < desk.spotCount; s++) {
                gap[s] = 0;
                patience[s] = ANY;
            }
        }

        void setRuns(int d, boolean on) {
            runs[d] = on && !desk.off[d];
        }

        void dropAll(Way way) {
            for (int i = 0; i < way.count; i++) {
                runs[way.row[i]] = false;
            }
        }

        /** As if a departure left a tick later; where it stands in the rows stays as it was. */
        void putOff(int d) {
            leave[d]++;
            arrive[d]++;
        }

        /** Whether one can ride e behind d; e is one of those that leave where d arrives. */
        boolean joins(int d, int e) {
            int s = desk.to[d];
            int idle = leave[e] - arrive[d];
            if (idle < 0 || patience[s] != ANY && idle > patience[s]) {
                return false;
            }
            return !isTurn(d, e) || idle >= gap[s];
        }

        boolean isTurn(int d, int e) {
            return desk.line[d] != desk.line[e];
        }

        /** The order of the question ahead is nearly this one's: it is kept, so that sorting is short. */
        private void keepOrder(int newCount) {
            int kept = 0;
            for (int i = 0; i < count; i++) {
                if (order[i] < newCount) {
                    order[kept] = order[i];
                    kept++;
                }
            }
            for (int d = kept; d < newCount; d++) {
                order[d] = d;
            }
            count = newCount;
        }

        private void sort() {
            for (int i = 1; i < count; i++) {
                int d = order[i];
                int k = i;
                while (k > 0 && isBehind(order[k - 1], d)) {
                    order[k] = order[k - 1];
                    k--;
                }
                order[k] = d;
            }
        }

        private boolean isBehind(int d, int e) {
            return leave[d] > leave[e] || leave[d] == leave[e] && d > e;
        }

        private void group() {
            for (int s = 0; s <= desk.spotCount; s++) {
                first[s] = 0;
            }
            for (int d = 0; d < count; d++) {
                first[desk.from[d]]++;
            }
            for (int s = 1; s <= desk.spotCount; s++) {
                first[s] += first[s - 1];
            }
            // Each spot's end moves down to its beginning, while its part is filled from behind.
            for (int i = count - 1; i >= 0; i--) {
                int s = desk.from[order[i]];
                first[s]--;
                bySpot[first[s]] = order[i];
            }
        }
    }

    /** A way: the departures that it rides, and what is told of it. */
    private static final class Way {
        int count;
        int start;
        int end;
        int turns;
        final int[] row = new int[MOST_DEPARTURES];

        void setEmpty(int t) {
            count = 0;
            start = t;
            end = t;
            turns = 0;
        }

        int idleTicks(Net net) {
            int ticks = 0;
            for (int i = 1; i < count; i++) {
                ticks += net.leave[row[i]] - net.arrive[row[i - 1]];
            }
            return ticks;
        }
    }

    /** BEST WAYS to one spot, from each departure on. */
    private static final class Search {
        final Way way = new Way();
        final int[] turnsAt = new int[MOST_SPOTS];
        final int[] end = new int[MOST_DEPARTURES];
        final int[] turns = new int[MOST_DEPARTURES];
        private final int[] length = new int[MOST_DEPARTURES];
        private final int[] next = new int[MOST_DEPARTURES];

        boolean findBest(Net net, int a, int b, int t) {
            if (a == b) {
                way.setEmpty(t);
                return true;
            }
            aim(net, b);
            return trace(net, a, t);
        }

        /** Counts how often the BEST WAYS between all spots change at each of them. */
        void countTurns(Net net, int t) {
            int spots = net.desk.spotCount;
            for (int s = 0; s < spots; s++) {
                turnsAt[s] = 0;
            }
            for (int b = 0; b < spots; b++) {
                aim(net, b);
                for (int a = 0; a < spots; a++) {
                    if (a != b && trace(net, a, t)) {
                        addTurns(net);
                    }
                }
            }
        }

        private void addTurns(Net net) {
            for (int i = 1; i < way.count; i++) {
                if (net.isTurn(way.row[i - 1], way.row[i])) {
                    turnsAt[net.desk.from[way.row[i]]]++;
                }
            }
        }

        /** Finds, for each departure that runs, how one goes on best with it to b. */
        void aim(Net net, int b) {
            // What can be ridden behind a departure leaves later: it has been looked at ahead of it.
            for (int i = net.count - 1; i >= 0; i--) {
                int d = net.order[i];
                end[d] = FAR;
                next[d] = NONE;
                if (net.runs[d]) {
                    aimFrom(net, d, b);
                }
            }
        }

        private void aimFrom(Net net, int d, int b) {
            int s = net.desk.to[d];
            if (s == b) {
                end[d] = net.arrive[d];
                turns[d] = 0;
                length[d] = 1;
                return;
            }
            for (int p = net.first[s]; p < net.first[s + 1]; p++) {
                int e = net.bySpot[p];
                if (net.joins(d, e) && end[e] < FAR) {
                    offer(d, e, turns[e] + (net.isTurn(d, e) ? 1 : 0));
                }
            }
        }

        /** Whether one who rides d gets to the spot aimed at, b, by a time. */
        boolean getsThere(Net net, int d, int b, int by) {
            int s = net.desk.to[d];
            if (s == b) {
                return net.arrive[d] <= by;
            }
            for (int p = net.first[s]; p < net.first[s + 1]; p++) {
                int e = net.bySpot[p];
                if (end[e] <= by && net.joins(d, e)) {
                    return true;
                }
            }
            return false;
        }

        private void offer(int d, int e, int itsTurns) {
            if (isBetter(e, itsTurns, d)) {
                end[d] = end[e];
                turns[d] = itsTurns;
                length[d] = length[e] + 1;
                next[d] = e;
            }
        }

        private boolean isBetter(int e, int itsTurns, int d) {
            if (end[e] != end[d]) {
                return end[e] < end[d];
            }
            if (itsTurns != turns[d]) {
                return itsTurns < turns[d];
            }
            if (length[e] + 1 != length[d]) {
                return length[e] + 1 < length[d];
            }
            return e < next[d];
        }

        /** Writes down the BEST WAY from a to the spot aimed at; false if there is none. */
        private boolean trace(Net net, int a, int t) {
            int best = pickFirst(net, a, t);
            way.count = 0;
            if (best == NONE) {
                return false;
            }
            way.start = net.leave[best];
            way.end = end[best];
            way.turns = turns[best];
            for (int d = best; d != NONE && way.count < MOST_DEPARTURES; d = next[d]) {
                way.row[way.count] = d;
                way.count++;
            }
            return true;
        }

        private int pickFirst(Net net, int a, int t) {
            int best = NONE;
            for (int p = net.first[a]; p < net.first[a + 1]; p++) {
                int d = net.bySpot[p];
                boolean goes = net.leave[d] >= t && end[d] < FAR;
                if (goes && (best == NONE || isBetterFirst(net, d, best))) {
                    best = d;
                }
            }
            return best;
        }

        private boolean isBetterFirst(Net net, int d, int best) {
            if (end[d] != end[best]) {
                return end[d] < end[best];
            }
            if (turns[d] != turns[best]) {
                return turns[d] < turns[best];
            }
            if (net.leave[d] != net.leave[best]) {
                return net.leave[d] > net.leave[best];
            }
            if (length[d] != length[best]) {
                return length[d] < length[best];
            }
            return d < best;
        }
    }

    /** When one can be soonest at each spot, from one of them on. */
    private static final class Flood {
        final int[] soonest = new int[MOST_SPOTS];
        private final boolean[] caught = new boolean[MOST_DEPARTURES];

        void spread(Net net, int a, int t) {
            for (int s = 0; s < net.desk.spotCount; s++) {
                soonest[s] = FAR;
            }
            for (int d = 0; d < net.count; d++) {
                caught[d] = net.desk.from[d] == a && net.leave[d] >= t;
            }
            for (int i = 0; i < net.count; i++) {
                int d = net.order[i];
                if (net.runs[d] && caught[d]) {
                    rideOn(net, d);
                }
            }
            // One is at the first spot from the beginning, whenever a way comes back there.
            soonest[a] = t;
        }

        /** Whether one who set out from a at t can ride d, by what was caught when it didn't run. */
        boolean canRide(Net net, int d, int a, int t) {
            int s = net.desk.from[d];
            if (s == a && net.leave[d] >= t) {
                return true;
            }
            for (int e = 0; e < net.count; e++) {
                if (caught[e] && net.runs[e] && net.desk.to[e] == s && net.joins(e, d)) {
                    return true;
                }
            }
            return false;
        }

        private void rideOn(Net net, int d) {
            int s = net.desk.to[d];
            soonest[s] = Math.min(soonest[s], net.arrive[d]);
            for (int p = net.first[s]; p < net.first[s + 1]; p++) {
                int e = net.bySpot[p];
                if (net.joins(d, e)) {
                    caught[e] = true;
                }
            }
        }
    }

    /** The STEPS from a spot to another one, the last to leave first. */
    private static final class Steps {
        int count;
        final int[] starts = new int[MOST_DEPARTURES];
        final int[] ends = new int[MOST_DEPARTURES];
        final int[] turns = new int[MOST_DEPARTURES];

        /** Gathers them to the spot that the search has aimed at. */
        void collect(Net net, Search search, int a) {
            count = 0;
            for (int p = net.first[a + 1] - 1; p >= net.first[a]; p--) {
                int d = net.bySpot[p];
                if (search.end[d] < FAR) {
                    consider(net.leave[d], search.end[d], search.turns[d]);
                }
            }
        }

        private void consider(int leave, int end, int itsTurns) {
            boolean sameStart = count > 0 && starts[count - 1] == leave;
            if (count > 0 && end >= ends[count - 1]) {
                if (sameStart && end == ends[count - 1]) {
                    turns[count - 1] = Math.min(turns[count - 1], itsTurns);
                }
                return;
            }
            if (sameStart) {
                count--;
            }
            starts[count] = leave;
            ends[count] = end;
            turns[count] = itsTurns;
            count++;
        }

        int lastStartFor(int by) {
            for (int k = 0; k < count; k++) {
                if (ends[k] <= by) {
                    return starts[k];
                }
            }
            return NO_WAY;
        }

        int leastTicks() {
            int least = NO_WAY;
            for (int k = 0; k < count; k++) {
                int ticks = ends[k] - starts[k];
                if (least == NO_WAY || ticks < least) {
                    least = ticks;
                }
            }
            return least;
        }

        /** All ticks from ready to arrived, ready at each tick from one to another; NO_WAY if one has none. */
        int ticksOver(int from, int till) {
            if (count == 0 || till > starts[0]) {
                return NO_WAY;
            }
            int sum = 0;
            int k = 0;
            for (int t = till; t >= from; t--) {
                while (k + 1 < count && starts[k + 1] >= t) {
                    k++;
                }
                sum += ends[k] - t;
            }
            return sum;
        }
    }

    /** Pairs of arrival and changes of which neither can be less but by more of the other. */
    private static final class Bargains {
        int count;
        final int[] ends = new int[MOST_DEPARTURES];
        final int[] turns = new int[MOST_DEPARTURES];
        final int[] starts = new int[MOST_DEPARTURES];
        /** By departure, when one arrives at the soonest with so many changes, and with one less. */
        private int[] now = new int[MOST_DEPARTURES];
        private int[] fewer = new int[MOST_DEPARTURES];

        void collect(Net net, int a, int b, int t, int mostTurns) {
            count = 0;
            if (a == b) {
                add(t, 0, t);
                return;
            }
            for (int d = 0; d < net.count; d++) {
                now[d] = FAR;
            }
            int best = FAR;
            boolean moved = true;
            for (int k = 0; moved && k <= mostTurns; k++) {
                moved = allowOneMore(net, b);
                int end = soonestFrom(net, a, t);
                if (end < best) {
                    best = end;
                    add(end, k, latestStart(net, a, t, end));
                }
            }
        }

        private void add(int end, int itsTurns, int start) {
            if (count < MOST_DEPARTURES) {
                ends[count] = end;
                turns[count] = itsTurns;
                starts[count] = start;
                count++;
            }
        }

        /** Whether one change more lets any departure arrive sooner. */
        private boolean allowOneMore(Net net, int b) {
            int[] old = now;
            now = fewer;
            fewer = old;
            boolean moved = false;
            for (int i = net.count - 1; i >= 0; i--) {
                int d = net.order[i];
                now[d] = net.runs[d] ? soonestWith(net, d, b) : FAR;
                moved = moved || now[d] != fewer[d];
            }
            return moved;
        }

        private int soonestWith(Net net, int d, int b) {
            int s = net.desk.to[d];
            if (s == b) {
                return net.arrive[d];
            }
            int soonest = FAR;
            for (int p = net.first[s]; p < net.first[s + 1]; p++) {
                int e = net.bySpot[p];
                if (net.joins(d, e)) {
                    soonest = Math.min(soonest, net.isTurn(d, e) ? fewer[e] : now[e]);
                }
            }
            return soonest;
        }

        private int soonestFrom(Net net, int a, int t) {
            int soonest = FAR;
            for (int p = net.first[a]; p < net.first[a + 1]; p++) {
                int d = net.bySpot[p];
                if (net.leave[d] >= t) {
                    soonest = Math.min(soonest, now[d]);
                }
            }
            return soonest;
        }

        private int latestStart(Net net, int a, int t, int end) {
            int latest = t;
            for (int p = net.first[a]; p < net.first[a + 1]; p++) {
                int d = net.bySpot[p];
                if (now[d] == end) {
                    latest = Math.max(latest, net.leave[d]);
                }
            }
            return latest;
        }
    }
}
