import java.io.IOException;

/** The words and limits ahead of the promises, sentence by sentence: terms I (EdgesOfText), II and III. */
public final class EdgesOfTermsTest {
    private static final int R = 0;
    private static final int G = 1;
    /** Spots s, m, n, z without CHANGE, any WAIT; departures come besides. */
    private static final String BARE = "desk span 100;spot s change 0;spot m change 0;spot n change 0;"
            + "spot z change 0;line r;line g";
    private static final int S = 0;
    private static final int M = 1;
    private static final int N = 2;
    private static final int Z = 3;

    public static void main(String[] args) throws IOException {
        calls512();
        EdgesOfText.all();
        delays();
        runs();
        ready();
        thenOrLater();
        noEarlier();
        atMostWait();
        changeAtLeast();
        lastOne();
        firstSpot();
        goingThrough();
        toItself();
        bestArrives();
        bestChanges();
        bestLeaves();
        bestDepartures();
        bestNumbers();
        stepPairs();
        stepsLeftOut();
        stepsRising();
        acts();
        oneMore();
        tenKept();
        latestCall();
        troubles();
        inTheirOrder();
        withoutDesk();
        noWay();
        constants();
        headOfWays();
        Edges.end("EdgesOfTermsTest", Edges.TERMS, Edges.TERMS);
    }

    private static void calls512() {
        Edges.of(0, "An object is used for at most 512 calls after it has been made; what later calls answer is free.");
        LinkTimes x = new LinkTimes();
        Bench.put(x, Edges.DESK);
        x.desk(Edges.DESK.length());
        int calls = (Edges.DESK.length() + 19) / 20 + 1;
        int was = 0;
        for (; calls < 510; calls += 2) {
            int late = calls % 100;
            Bench.due("delay() as call " + calls, x.delay(0, late), was);
            Bench.due("departure() as call " + (calls + 1), x.departure(0, 5), late);
            was = late;
        }
        Bench.due("undo() as one of the last calls", x.undo(), true);
        Bench.due("size(1) as one of the last calls", x.size(1), 9);
        // Free answers, but no call may throw.
        for (; calls < 2000; calls++) {
            x.delay(0, 1);
            x.feed(1, 2, 3, 4, 5);
            x.arrives(Edges.A, Edges.D, 0);
            x.undo();
            x.desk(calls);
        }
    }

    private static LinkTimes bare() {
        return Bench.with(BARE);
    }

    private static void delays() {
        Edges.of(0, "II. A DEPARTURE has a DELAY (0 at first): it LEAVES so much later, and ARRIVES TAKES behind that.");
        LinkTimes x = Edges.desk();
        for (int d = 0; d < Edges.DEPARTURES; d++) {
            Bench.due("DELAY of " + d + " at first", x.departure(d, 5), 0);
        }
        for (int late : new int[] {0, 1, 99}) {
            x.delay(0, late);
            Bench.due("LEAVES of 0", x.departure(0, 3), 10 + late);
            Bench.due("ARRIVES of 0", x.departure(0, 4), 20 + late);
        }
        // Behind the SPAN, too.
        x.delay(7, 99);
        Bench.due("LEAVES of 7", x.departure(7, 3), 169);
        Bench.due("arrives(c, d)", x.arrives(Edges.C, Edges.D, 169), 199);
    }

    private static void runs() {
        Edges.of(0, "It RUNS, if it isn't cancelled.");
        LinkTimes x = Edges.desk();
        Bench.due("departure(0, 6) at first", x.departure(0, 6), 1);
        x.cancel(0);
        Bench.due("departure(0, 6) cancelled", x.departure(0, 6), 0);
        Bench.due("arrives(a, b, 0) without it", x.arrives(Edges.A, Edges.B, 0), 40);
        x.delay(0, 9);
        Bench.due("departure(0, 6) with another DELAY", x.departure(0, 6), 0);
        x.run(0);
        Bench.due("arrives(a, b, 0) with it again", x.arrives(Edges.A, Edges.B, 0), 29);
    }

    private static void ready() {
        Edges.of(0, "A WAY from a SPOT, READY at a TIME (0 .. 1,999), to another one: "
                + "DEPARTURES that RUN, one behind the other:");
        LinkTimes x = Edges.desk();
        Edges.times(x, "arrives(a, b, t)", t -> x.arrives(Edges.A, Edges.B, t));
        Bench.due("arrives(a, d, 0)", x.arrives(Edges.A, Edges.D, 0), 100);
        Bench.due("arrives(a, d, 1999)", x.arrives(Edges.A, Edges.D, 1999), -2);
        x.cancel(7);
        Bench.due("arrives(a, d, 0) without 7", x.arrives(Edges.A, Edges.D, 0), -2);
    }

    private static void thenOrLater() {
        Edges.of(0, "the first one LEAVES that SPOT, then or later;");
        LinkTimes x = Edges.desk();
        Bench.due("arrives(a, b, 9)", x.arrives(Edges.A, Edges.B, 9), 20);
        Bench.due("arrives(a, b, 10)", x.arrives(Edges.A, Edges.B, 10), 20);
        Bench.due("arrives(a, b, 11)", x.arrives(Edges.A, Edges.B, 11), 40);
        Bench.due("arrives(a, b, 50)", x.arrives(Edges.A, Edges.B, 50), 60);
        Bench.due("arrives(a, b, 51)", x.arrives(Edges.A, Edges.B, 51), -2);
    }

    /** From a, at b at 20, on to c by a line that leaves at a time, with a CHANGE and a WAIT at b. */
    private static int joined(String line, int leaves, String changeAndWait) {
        LinkTimes x = Bench.with("desk span 99;spot a change 9 wait 0;spot b change " + changeAndWait
                + ";spot c change 9 wait 0;line r;line g;link r a b from 10 till 10 every 1 takes 10;link " + line
                + " b c from " + leaves + " till " + leaves + " every 1 takes 1");
        return x.arrives(0, 2, 0);
    }

    private static void noEarlier() {
        Edges.of(0, "each other one LEAVES the SPOT at which the one ahead of it ARRIVES: no earlier,");
        Bench.due("of the same LINE, earlier", joined("r", 19, "3"), -2);
        Bench.due("of the same LINE, at once", joined("r", 20, "3"), 21);
        Bench.due("of another LINE, earlier", joined("g", 19, "0"), -2);
        Bench.due("of another LINE, at once", joined("g", 20, "0"), 21);
        // From another SPOT than that at which one ARRIVES there is no going on.
        LinkTimes x = bare();
        x.extra(R, S, M, 10, 10);
        x.extra(R, N, Z, 20, 10);
        Bench.due("from another SPOT", x.arrives(S, Z, 0), -2);
    }

    private static void atMostWait() {
        Edges.of(0, "and at most WAIT later;");
        Bench.due("of the same LINE, just so long", joined("r", 25, "3 wait 5"), 26);
        Bench.due("of the same LINE, too long", joined("r", 26, "3 wait 5"), -2);
        Bench.due("of another LINE, just so long", joined("g", 25, "3 wait 5"), 26);
        Bench.due("of another LINE, too long", joined("g", 26, "3 wait 5"), -2);
        Bench.due("WAIT 0, at once", joined("r", 20, "3 wait 0"), 21);
        Bench.due("WAIT 0, a TICK later", joined("r", 21, "3 wait 0"), -2);
        Bench.due("any WAIT", joined("r", 99, "3"), 100);
        Bench.due("any WAIT, of another LINE", joined("g", 99, "3"), 100);
    }

    private static void changeAtLeast() {
        Edges.of(0, "if it is of another LINE (a CHANGE), CHANGE later at least.");
        Bench.due("of another LINE, too early", joined("g", 22, "3 wait 5"), -2);
        Bench.due("of another LINE, just in time", joined("g", 23, "3 wait 5"), 24);
        Bench.due("of the same LINE", joined("r", 22, "3 wait 5"), 23);
        // WAIT less than CHANGE: no CHANGE there, but going on by the same LINE.
        Bench.due("of another LINE, with less WAIT", joined("g", 24, "5 wait 4"), -2);
        Bench.due("of another LINE, with less WAIT, later", joined("g", 25, "5 wait 4"), -2);
        Bench.due("of the same LINE, with less WAIT", joined("r", 24, "5 wait 4"), 25);
        Bench.due("of another LINE, WAIT like CHANGE", joined("g", 25, "5 wait 5"), 26);
        Bench.due("of another LINE, CHANGE 99, too early", joined("g", 99, "99"), -2);
    }

    private static void lastOne() {
        Edges.of(0, "The last one ARRIVES at the other SPOT.");
        LinkTimes x = Edges.desk();
        // CHANGE and WAIT of the other SPOT mean nothing for arriving there.
        Bench.due("arrives(c, d, 70)", x.arrives(Edges.C, Edges.D, 70), 100);
        x.change(Edges.D, 99);
        Bench.due("arrives(c, d, 70) with CHANGE 99 at d", x.arrives(Edges.C, Edges.D, 70), 100);
        Bench.due("arrives(c, e, 0)", x.arrives(Edges.C, Edges.E, 0), -2);
    }

    private static void firstSpot() {
        Edges.of(0, "(At the first SPOT one may wait as long as one likes.");
        LinkTimes x = Edges.desk();
        Bench.due("arrives(b, c, 0): 25 is beyond the WAIT of 20 there", x.arrives(Edges.B, Edges.C, 0), 30);
        x.hold(Edges.B, 0);
        Bench.due("arrives(b, c, 0) with WAIT 0", x.arrives(Edges.B, Edges.C, 0), 30);
        x.change(Edges.B, 99);
        Bench.due("arrives(b, c, 25) with CHANGE 99", x.arrives(Edges.B, Edges.C, 25), 30);
    }

    private static void goingThrough() {
        Edges.of(0, "Going on through that other SPOT, or the first one, is a WAY, too.");
        // By m and s again to z: the last one alone is as soon, and LEAVES last.
        LinkTimes x = bare();
        x.extra(R, S, M, 10, 10);
        x.extra(R, M, S, 20, 10);
        x.extra(R, S, Z, 30, 10);
        x.extra(R, Z, M, 40, 10);
        x.extra(R, M, Z, 50, 10);
        Bench.due("rides(s, z, 0)", x.rides(S, Z, 0), 1);
        Bench.due("leaves(s, z, 0)", x.leaves(S, Z, 0), 30);
        Bench.due("steps(s, z)", x.steps(S, Z), 1);
        // From m it is through s, from n to m through z: both are no first ones there.
        Bench.due("rides(m, z, 0)", x.rides(M, Z, 0), 2);
        x.extra(R, N, S, 25, 5);
        Bench.due("rides(n, m, 0)", x.rides(N, M, 0), 3);
        Bench.due("arrives(n, m, 0)", x.arrives(N, M, 0), 50);
    }

    private static void toItself() {
        Edges.of(0, "From a SPOT to itself: the WAY without DEPARTURES alone, ARRIVING at once.)");
        LinkTimes x = bare();
        x.extra(R, S, M, 10, 10);
        x.extra(R, M, S, 20, 10);
        for (int t : new int[] {0, 10, 1999}) {
            Bench.due("arrives(s, s)", x.arrives(S, S, t), t);
            Bench.due("rides(s, s)", x.rides(S, S, t), 0);
            Bench.due("changes(s, s)", x.changes(S, S, t), 0);
            Bench.due("trades(s, s)", x.trades(S, S, t), 1);
        }
    }

    private static void best(LinkTimes x, String why, int... rides) {
        Bench.due("rides(s, z, 0): " + why, x.rides(S, Z, 0), rides.length);
        for (int i = 0; i < rides.length; i++) {
            Bench.due("ride(s, z, 0, " + i + "): " + why, x.ride(S, Z, 0, i), rides[i]);
        }
    }

    private static void bestArrives() {
        Edges.of(0, "BEST of several WAYS: that which ARRIVES first;");
        LinkTimes x = bare();
        x.extra(R, S, Z, 50, 11);
        x.extra(R, S, M, 10, 10);
        x.extra(G, M, Z, 20, 40);
        best(x, "a tick sooner, though it has more of all and LEAVES earlier", 1, 2);
        x.delay(2, 1);
        best(x, "as soon", 0);
    }

    private static void bestChanges() {
        Edges.of(0, "of like ones that with the fewest CHANGES;");
        LinkTimes x = bare();
        x.extra(R, S, M, 30, 10);
        x.extra(G, M, Z, 40, 20);
        x.extra(R, S, M, 10, 10);
        x.extra(R, M, N, 20, 10);
        x.extra(R, N, Z, 30, 30);
        best(x, "though it LEAVES earlier and has more DEPARTURES", 2, 3, 4);
        x.delay(4, 1);
        best(x, "a tick later", 0, 1);
    }

    private static void bestLeaves() {
        Edges.of(0, "of these that of which the first DEPARTURE LEAVES last;");
        LinkTimes x = bare();
        x.extra(R, S, Z, 10, 50);
        x.extra(R, S, M, 11, 9);
        x.extra(R, M, Z, 20, 40);
        best(x, "though it has more DEPARTURES and greater numbers", 1, 2);
        x.extra(R, S, Z, 11, 49);
        best(x, "LEAVING as late, with fewer", 3);
    }

    private static void bestDepartures() {
        Edges.of(0, "with the fewest DEPARTURES;");
        LinkTimes x = bare();
        x.extra(R, S, M, 10, 10);
        x.extra(R, M, Z, 20, 40);
        x.extra(R, S, Z, 10, 50);
        best(x, "though its number is greater", 2);
        x.cancel(2);
        best(x, "two", 0, 1);
        // A question ahead of it, by which one goes on from z with 2 alone, changes nothing.
        x.run(2);
        x.cancel(1);
        x.extra(R, Z, N, 60, 5);
        Bench.due("rides(s, n, 0): 2 and 3", x.rides(S, N, 0), 2);
        x.run(1);
        best(x, "behind another question", 2);
        // From m on by n, one more, though the row is less so.
        x = bare();
        x.extra(R, S, M, 10, 10);
        x.extra(R, M, N, 20, 10);
        x.extra(R, N, Z, 30, 30);
        x.extra(R, M, Z, 20, 40);
        best(x, "behind a DEPARTURE of both", 0, 3);
        x = bare();
        x.extra(R, S, M, 10, 10);
        x.extra(R, M, Z, 20, 40);
        x.extra(R, M, N, 21, 9);
        x.extra(R, N, Z, 30, 30);
        best(x, "behind a DEPARTURE of both, where the longer one LEAVES later", 0, 1);
    }

    private static void bestNumbers() {
        Edges.of(0, "by their numbers, from the first on, the least row.");
        LinkTimes x = bare();
        x.extra(R, S, M, 10, 10);
        x.extra(R, S, N, 10, 10);
        x.extra(R, N, Z, 20, 40);
        x.extra(R, M, Z, 30, 30);
        best(x, "the first number counts ahead of the other one", 0, 3);
        x.extra(R, M, Z, 20, 40);
        best(x, "the first number alike, the other one less", 0, 3);
        x.cancel(0);
        best(x, "what is left", 1, 2);
        x.extra(R, S, N, 10, 10);
        best(x, "a greater first number", 1, 2);
    }

    private static void stepPairs() {
        Edges.of(0, "STEPS from a SPOT to another one: pairs of LEAVES (of the first DEPARTURE) "
                + "and ARRIVES (of the last one) of WAYS,");
        LinkTimes x = bare();
        Bench.due("steps(s, z) without departures", x.steps(S, Z), 0);
        x.extra(R, S, M, 10, 10);
        x.extra(G, M, Z, 20, 10);
        Bench.due("steps(s, z)", x.steps(S, Z), 1);
        Bench.due("LEAVES", x.step(S, Z, 0, 0), 10);
        Bench.due("ARRIVES", x.step(S, Z, 0, 1), 30);
        x.extra(R, S, Z, 10, 20);
        Bench.due("steps(s, z): two WAYS of one pair", x.steps(S, Z), 1);
    }

    private static void stepsLeftOut() {
        Edges.of(0, "but those for which another WAY LEAVES no earlier and ARRIVES no later, one of it better;");
        LinkTimes x = bare();
        x.extra(R, S, Z, 10, 20);
        x.extra(R, S, Z, 9, 21);
        Bench.due("steps(s, z): one LEAVES earlier, ARRIVES as late", x.steps(S, Z), 1);
        x.extra(R, S, Z, 10, 21);
        Bench.due("steps(s, z): one LEAVES as late, ARRIVES later", x.steps(S, Z), 1);
        x.extra(R, S, Z, 9, 22);
        Bench.due("steps(s, z): one is worse by both", x.steps(S, Z), 1);
        x.extra(R, S, Z, 9, 20);
        Bench.due("steps(s, z): one LEAVES and ARRIVES earlier", x.steps(S, Z), 2);
        x.extra(R, S, Z, 11, 20);
        Bench.due("steps(s, z): one LEAVES and ARRIVES later", x.steps(S, Z), 3);
        x.extra(R, S, Z, 11, 18);
        Bench.due("steps(s, z): one by which all others are left out", x.steps(S, Z), 1);
    }

    private static void stepsRising() {
        Edges.of(0, "by LEAVES rising.");
        LinkTimes x = bare();
        x.extra(R, S, Z, 50, 10);
        x.extra(R, S, Z, 10, 10);
        x.extra(R, S, Z, 30, 10);
        for (int i = 0; i < 3; i++) {
            Bench.due("step(s, z, " + i + ", 0)", x.step(S, Z, i, 0), 10 + 20 * i);
            Bench.due("step(s, z, " + i + ", 1)", x.step(S, Z, i, 1), 20 + 20 * i);
        }
    }

    private static void acts() {
        Edges.of(0, "ACTS: a DEPARTURE is cancelled, RUNS again, has another DELAY; CHANGE, WAIT of a SPOT;");
        LinkTimes x = Edges.desk();
        x.cancel(0);
        x.run(0);
        x.delay(0, 1);
        x.change(0, 1);
        x.hold(0, 1);
        Bench.due("size(1): five acts", x.size(1), 5);
        // What is refused, and what only asks, is none.
        x.run(0);
        x.delay(0, 100);
        x.change(9, 1);
        x.hold(0, -2);
        x.extra(0, 0, 0, 0, 1);
        x.needs(0, 1, 0, 0);
        x.slack(0, 1, 0, 0);
        x.feed(0, 0, 0, 0, 0);
        Bench.due("size(1): no act more", x.size(1), 5);
    }

    private static void oneMore() {
        Edges.of(0, "a DEPARTURE more (it is numbered behind all others).");
        LinkTimes x = Edges.desk();
        Bench.due("extra()", x.extra(R, Edges.D, Edges.A, 0, 1), 8);
        Bench.due("extra() again", x.extra(R, Edges.D, Edges.A, 0, 1), 9);
        Bench.due("size(1)", x.size(1), 2);
        Bench.due("ordered(0): it LEAVES first", x.ordered(0), 8);
        x.undo();
        Bench.due("extra() behind undo()", x.extra(R, Edges.D, Edges.A, 5, 1), 9);
        Bench.due("departure(9, 3)", x.departure(9, 3), 5);
    }

    private static void tenKept() {
        Edges.of(0, "UNDO: the latest not undone yet (10 are kept).");
        LinkTimes x = Edges.desk();
        for (int v = 1; v <= 11; v++) {
            x.delay(0, v);
        }
        Bench.due("size(1) of eleven acts", x.size(1), 10);
        Bench.due("undo()", x.undo(), true);
        Bench.due("departure(0, 5): the latest is undone", x.departure(0, 5), 10);
        x.delay(0, 50);
        x.undo();
        Bench.due("departure(0, 5): the latest that is not undone yet", x.departure(0, 5), 10);
        for (int k = 0; k < 9; k++) {
            Bench.due("undo()", x.undo(), true);
        }
        Bench.due("departure(0, 5): ten are undone", x.departure(0, 5), 1);
        Bench.due("undo() of the eleventh", x.undo(), false);
        Bench.due("departure(0, 5): the eleventh stays", x.departure(0, 5), 1);
        tenOfAllSorts();
    }

    /** The oldest are forgotten whatever they are, and those behind them stay what they are. */
    private static void tenOfAllSorts() {
        LinkTimes x = Edges.desk();
        x.cancel(3);
        x.change(3, 30);
        x.hold(3, 31);
        x.delay(3, 32);
        x.run(3);
        for (int k = 0; k < 2; k++) {
            x.extra(R, Edges.D, Edges.A, 0, 1);
            x.cancel(8 + k);
            x.delay(8 + k, 33);
            x.change(4, 34 + k);
        }
        int[][] due = {{10, 8, 34}, {10, 8, 34}, {10, 9, 34}, {9, 8, 34}, {9, 8, 9}};
        for (int[] then : due) {
            Bench.due("undo()", x.undo(), true);
            Bench.due("about(4)", x.about(4), then[0]);
            Bench.due("about(5)", x.about(5), then[1]);
            Bench.due("spot(4, 0)", x.spot(4, 0), then[2]);
        }
        for (int k = 0; k < 5; k++) {
            Bench.due("undo()", x.undo(), true);
        }
        Bench.due("undo() of the eleventh", x.undo(), false);
        Bench.due("about(4) at last", x.about(4), 8);
        Bench.due("departure(3, 6) at last", x.departure(3, 6), 0);
        Bench.due("departure(3, 5) at last", x.departure(3, 5), 0);
        Bench.due("spot(3, 0) at last", x.spot(3, 0), 30);
        Bench.due("spot(3, 1) at last", x.spot(3, 1), 31);
    }

    private static void latestCall() {
        Edges.of(0, "III. TROUBLE of the latest call that may be refused (those of which a number is told here):");
        LinkTimes x = Edges.desk();
        x.run(0);
        Bench.due("trouble()", x.trouble(), 5);
        x.trouble();
        x.fault();
        x.where();
        x.size(0);
        x.size(9);
        Bench.still(x, 0);
        Bench.still(x, 9);
        for (int k = 0; k < 46; k++) {
            x.feed(0, 0, 0, 0, 0);
        }
        Bench.due("trouble() behind calls of which no number is told", x.trouble(), 5);
        x.about(0);
        Bench.due("trouble() behind one of which one is", x.trouble(), 0);
        x.undo();
        Bench.due("trouble() behind undo()", x.trouble(), 1);
    }

    private static void troubles() {
        LinkTimes x = Edges.desk();
        Edges.of(0, "0 it wasn't;");
        x.arrives(Edges.A, Edges.B, 0);
        Bench.due("trouble()", x.trouble(), 0);
        Edges.of(0, "1 there is none such;");
        x.arrives(Edges.A, Edges.SPOTS, 0);
        Bench.due("trouble()", x.trouble(), 1);
        Edges.of(0, "2 a number;");
        x.arrives(Edges.A, Edges.B, 2000);
        Bench.due("trouble()", x.trouble(), 2);
        Edges.of(0, "3 no room;");
        for (int d = Edges.DEPARTURES; d <= 120; d++) {
            x.extra(R, Edges.D, Edges.A, 0, 1);
            Bench.due("trouble() of extra() for " + d, x.trouble(), d < 120 ? 0 : 3);
        }
        Edges.of(0, "4 a FAULT;");
        x.desk(0);
        Bench.due("trouble()", x.trouble(), 4);
        Edges.of(0, "5 not so.");
        x.run(0);
        Bench.due("trouble()", x.trouble(), 5);
    }

    private static void inTheirOrder() {
        Edges.of(0, "Refusals of a call are met in the order in which they are told;");
        LinkTimes x = Edges.desk();
        Bench.refused(x, "arrives(5, 0, -1)", x.arrives(5, 0, -1), 1);
        Bench.refused(x, "ride(5, 0, -1, -1)", x.ride(5, 0, -1, -1), 1);
        Bench.refused(x, "ride(a, b, 2000, 99)", x.ride(Edges.A, Edges.B, 2000, 99), 2);
        Bench.refused(x, "trade(a, b, 2000, 99, 99)", x.trade(Edges.A, Edges.B, 2000, 99, 99), 2);
        Bench.refused(x, "other(a, b, 2000, 99)", x.other(Edges.A, Edges.B, 2000, 99), 2);
        Bench.refused(x, "within(5, 0, -1, 21)", x.within(5, 0, -1, 21), 1);
        Bench.refused(x, "round(5, 0, -1, -1)", x.round(5, 0, -1, -1), 1);
        Bench.refused(x, "spent(0, 0, 5, 4)", x.spent(0, 0, 5, 4), 1);
        Bench.refused(x, "needs(a, b, 2000, 8)", x.needs(Edges.A, Edges.B, 2000, Edges.DEPARTURES), 1);
        Bench.refused(x, "why(5, 0, 0, -1)", x.why(5, 0, 0, -1), 1);
        Bench.refused(x, "delay(8, 100)", x.delay(Edges.DEPARTURES, 100), 1);
        Bench.refused(x, "change(5, 100)", x.change(5, 100), 1);
        Bench.refused(x, "hold(5, -2)", x.hold(5, -2), 1);
        Bench.refused(x, "extra(2, a, b, -1, 0)", x.extra(2, Edges.A, Edges.B, -1, 0), 1);
        while (x.about(4) < 120) {
            x.extra(R, Edges.D, Edges.A, 0, 1);
        }
        Bench.refused(x, "extra(r, a, b, 0, 0) of a full desk", x.extra(R, Edges.A, Edges.B, 0, 0), 2);
        Bench.refused(x, "extra(r, a, a, 0, 1) of a full desk", x.extra(R, Edges.A, Edges.A, 0, 1), 1);
        x.feed(0, 0, 0, 0, 0);
        Bench.refused(x, "desk(21) of a faulty text", x.desk(21), 2);
    }

    private static void withoutDesk() {
        Edges.of(0, "1 is also told without a DESK.");
        LinkTimes x = new LinkTimes();
        askAll(x, 0);
        askAll(x, -1);
        askAll(x, Integer.MAX_VALUE);
        Bench.due("undo()", x.undo(), false);
        Bench.due("trouble() behind undo()", x.trouble(), 1);
        // Nor is there one by a text that is none.
        Bench.tell(x, "desk span 60;spot a change 1;line r;");
        askAll(x, 0);
    }

    /** All calls that tell 1, with numbers that are all v: refused by it without a desk. */
    private static void askAll(LinkTimes x, int v) {
        int w = v == 0 ? 1 : v;
        one(x, x.about(v));
        one(x, x.spot(v, v));
        one(x, x.departure(v, v));
        one(x, x.ordered(v));
        one(x, x.arrives(v, w, v));
        one(x, x.changes(v, w, v));
        one(x, x.leaves(v, w, v));
        one(x, x.rides(v, w, v));
        one(x, x.ride(v, w, v, v));
        one(x, x.stands(v, w, v));
        one(x, x.trades(v, w, v));
        one(x, x.trade(v, w, v, v, v));
        one(x, x.within(v, w, v, v));
        one(x, x.latest(v, w, v));
        one(x, x.reach(v, v, v));
        one(x, x.farthest(v, v));
        one(x, x.meets(v, w, v));
        one(x, x.round(v, w, v, v));
        one(x, x.steps(v, w));
        one(x, x.step(v, w, v, v));
        one(x, x.quickest(v, w));
        one(x, x.spent(v, w, v, v));
        one(x, x.others(v, w, v));
        one(x, x.other(v, w, v, v));
        one(x, x.pairs(v));
        one(x, x.hub(v));
        one(x, x.slowest(v));
        one(x, x.needs(v, w, v, v));
        one(x, x.vital(v, w, v));
        one(x, x.slack(v, w, v, v));
        one(x, x.why(v, w, v, v));
        one(x, x.cancel(v));
        one(x, x.run(v));
        one(x, x.delay(v, v));
        one(x, x.change(v, v));
        one(x, x.hold(v, v));
        one(x, x.extra(v, v, w, v, w));
    }

    private static void one(LinkTimes x, int got) {
        Bench.refused(x, "a call without a desk", got, 1);
        // Another trouble in between, so that each call has to tell its own.
        x.desk(-1);
    }

    private static void noWay() {
        Edges.of(0, "-2 is no refusal: there is no WAY.");
        LinkTimes x = Edges.desk();
        two(x, x.arrives(Edges.D, Edges.A, 0));
        two(x, x.changes(Edges.D, Edges.A, 0));
        two(x, x.leaves(Edges.D, Edges.A, 0));
        two(x, x.rides(Edges.D, Edges.A, 0));
        two(x, x.ride(Edges.D, Edges.A, 0, 0));
        two(x, x.stands(Edges.D, Edges.A, 0));
        two(x, x.trades(Edges.D, Edges.A, 0));
        two(x, x.trade(Edges.D, Edges.A, 0, 0, 0));
        two(x, x.within(Edges.D, Edges.A, 0, 20));
        two(x, x.latest(Edges.D, Edges.A, 1999));
        two(x, x.meets(Edges.D, Edges.A, 71));
        two(x, x.round(Edges.D, Edges.A, 0, 0));
        two(x, x.quickest(Edges.D, Edges.A));
        two(x, x.spent(Edges.D, Edges.A, 0, 0));
        two(x, x.hub(71));
        two(x, x.slowest(71));
        two(x, x.needs(Edges.C, Edges.D, 0, 7));
        two(x, x.vital(Edges.D, Edges.A, 0));
        two(x, x.slack(Edges.D, Edges.A, 0, 0));
    }

    private static void two(LinkTimes x, int got) {
        Bench.good(x, "a call without a WAY", got, -2);
        x.about(9);
    }

    private static void constants() {
        Edges.of(0, "The constants: NONE = -1: There is none; refused.");
        Bench.due("NONE", LinkTimes.NONE, -1);
        LinkTimes x = new LinkTimes();
        Bench.due("a refused call", x.about(0), LinkTimes.NONE);
        Bench.due("where there is none", x.where(), LinkTimes.NONE);
    }

    private static void headOfWays() {
        Edges.of(0, "---- the BEST WAY from a to b, READY at t: NONE: 1 (SPOTS); 2 (t); -2 there is none.");
        LinkTimes x = Edges.desk();
        Edges.One[] ofFirst = {s -> x.arrives(s, 1, 0), s -> x.changes(s, 1, 0), s -> x.leaves(s, 1, 0),
            s -> x.rides(s, 1, 0), s -> x.stands(s, 1, 0), s -> x.trades(s, 1, 0), s -> x.within(s, 1, 0, 0)};
        Edges.One[] ofOther = {s -> x.arrives(0, s, 0), s -> x.changes(0, s, 0), s -> x.leaves(0, s, 0),
            s -> x.rides(0, s, 0), s -> x.stands(0, s, 0), s -> x.trades(0, s, 0), s -> x.within(0, s, 0, 0)};
        Edges.One[] ofTime = {t -> x.arrives(0, 1, t), t -> x.changes(0, 1, t), t -> x.leaves(0, 1, t),
            t -> x.rides(0, 1, t), t -> x.stands(0, 1, t), t -> x.trades(0, 1, t), t -> x.within(0, 1, t, 0)};
        for (int k = 0; k < ofTime.length; k++) {
            Edges.spots(x, "call " + k + " by its first spot", ofFirst[k]);
            Edges.spots(x, "call " + k + " by its other spot", ofOther[k]);
            Edges.times(x, "call " + k + " by its time", ofTime[k]);
            Bench.good(x, "call " + k + " too late", ofTime[k].of(51), -2);
        }
    }
}
