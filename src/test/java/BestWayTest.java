/** Promises 10 to 18: the BEST WAY, and arrivals against changes. */
public final class BestWayTest {
    /** Departures 0 a-c 5..35, 1 a-c 9..39, 2 a-b 5..10, 3 b-c 12..20, 4 a-b 6..9. */
    static final String TRADES = "desk span 50;spot a change 1;spot b change 1;spot c change 1;"
            + "line r;line g;line k;link r a c from 5 till 9 every 4 takes 30;"
            + "link r a b from 5 till 5 every 1 takes 5;link g b c from 12 till 12 every 1 takes 8;"
            + "link k a b from 6 till 6 every 1 takes 3";

    /** All of one line, all ARRIVE at 9: 0 a-d, 1 d-b, 2 a-b, 3 b-c, 4 a-e, 5 e-c, 6 b-c. */
    private static final String ALIKE = "desk span 50;spot a change 1;spot b change 1;spot c change 1;"
            + "spot d change 1;spot e change 1;line r;"
            + "link r a d from 1 till 1 every 1 takes 1;link r d b from 3 till 3 every 1 takes 1;"
            + "link r a b from 1 till 1 every 1 takes 2;link r b c from 5 till 5 every 1 takes 4;"
            + "link r a e from 1 till 1 every 1 takes 1;link r e c from 5 till 5 every 1 takes 4;"
            + "link r b c from 6 till 6 every 1 takes 3";

    public static void main(String[] args) {
        ofBase();
        withoutDepartures();
        withoutWay();
        refusals();
        order();
        orderBehind();
        changeAndWait();
        tradeCalls();
        withinCall();
        longWay();
        Bench.end("BestWayTest");
    }

    private static void way(LinkTimes x, int a, int b, int t, int[] told, int... rides) {
        String of = "(" + a + ", " + b + ", " + t + ")";
        Bench.good(x, "arrives" + of, x.arrives(a, b, t), told[0]);
        Bench.good(x, "changes" + of, x.changes(a, b, t), told[1]);
        Bench.good(x, "leaves" + of, x.leaves(a, b, t), told[2]);
        Bench.good(x, "stands" + of, x.stands(a, b, t), told[3]);
        Bench.good(x, "rides" + of, x.rides(a, b, t), rides.length);
        for (int i = 0; i < rides.length; i++) {
            Bench.good(x, "ride " + i + of, x.ride(a, b, t, i), rides[i]);
        }
        Bench.refused(x, "ride beyond" + of, x.ride(a, b, t, rides.length), 1);
        Bench.refused(x, "ride -1" + of, x.ride(a, b, t, -1), 1);
    }

    private static void ofBase() {
        LinkTimes x = Bench.with(TextTest.BASE);
        way(x, 0, 1, 0, new int[] {5, 0, 0, 0}, 0);
        way(x, 0, 1, 1, new int[] {25, 0, 20, 0}, 1);
        way(x, 0, 2, 0, new int[] {22, 0, 2, 0}, 6);
        way(x, 0, 3, 0, new int[] {28, 1, 2, 0}, 6, 8);
        way(x, 0, 3, 2, new int[] {28, 1, 2, 0}, 6, 8);
        way(x, 0, 3, 3, new int[] {58, 2, 20, 23}, 1, 5, 11);
        way(x, 1, 3, 0, new int[] {18, 1, 6, 2}, 3, 7);
        x.cancel(8);
        way(x, 0, 3, 0, new int[] {38, 2, 0, 23}, 0, 4, 9);
        x.delay(3, 1);
        way(x, 0, 3, 0, new int[] {18, 2, 0, 3}, 0, 3, 7);
    }

    private static void withoutDepartures() {
        LinkTimes x = Bench.with(TextTest.BASE);
        way(x, 0, 0, 0, new int[] {0, 0, 0, 0});
        way(x, 4, 4, 1999, new int[] {1999, 0, 1999, 0});
        Bench.good(x, "trades(1, 1, 8)", x.trades(1, 1, 8), 1);
        Bench.good(x, "trade(1, 1, 8, 0, 0)", x.trade(1, 1, 8, 0, 0), 8);
        Bench.good(x, "trade(1, 1, 8, 0, 1)", x.trade(1, 1, 8, 0, 1), 0);
        Bench.good(x, "trade(1, 1, 8, 0, 2)", x.trade(1, 1, 8, 0, 2), 8);
        Bench.refused(x, "trade(1, 1, 8, 1, 0)", x.trade(1, 1, 8, 1, 0), 1);
        Bench.good(x, "within(1, 1, 8, 0)", x.within(1, 1, 8, 0), 8);
    }

    private static void withoutWay() {
        LinkTimes x = Bench.with(TextTest.BASE);
        Bench.good(x, "arrives(0, 3, 21)", x.arrives(0, 3, 21), -2);
        Bench.good(x, "changes(0, 3, 21)", x.changes(0, 3, 21), -2);
        Bench.good(x, "leaves(0, 3, 21)", x.leaves(0, 3, 21), -2);
        Bench.good(x, "rides(0, 3, 21)", x.rides(0, 3, 21), -2);
        Bench.good(x, "ride(0, 3, 21, 0)", x.ride(0, 3, 21, 0), -2);
        Bench.good(x, "stands(0, 3, 21)", x.stands(0, 3, 21), -2);
        Bench.good(x, "trades(0, 3, 21)", x.trades(0, 3, 21), -2);
        Bench.good(x, "trade(0, 3, 21, 0, 0)", x.trade(0, 3, 21, 0, 0), -2);
        Bench.good(x, "within(0, 3, 21, 9)", x.within(0, 3, 21, 9), -2);
    }

    private static void refusals() {
        LinkTimes x = Bench.with(TextTest.BASE);
        int[][] wrong = {{5, 0, 0, 1}, {-1, 0, 0, 1}, {0, 5, 0, 1}, {0, -1, 0, 1}, {5, 0, -1, 1},
            {0, 1, -1, 2}, {0, 1, 2000, 2}, {3, 3, 2000, 2}};
        for (int[] w : wrong) {
            String of = "(" + w[0] + ", " + w[1] + ", " + w[2] + ")";
            Bench.refused(x, "arrives" + of, x.arrives(w[0], w[1], w[2]), w[3]);
            Bench.refused(x, "changes" + of, x.changes(w[0], w[1], w[2]), w[3]);
            Bench.refused(x, "leaves" + of, x.leaves(w[0], w[1], w[2]), w[3]);
            Bench.refused(x, "rides" + of, x.rides(w[0], w[1], w[2]), w[3]);
            Bench.refused(x, "ride" + of, x.ride(w[0], w[1], w[2], 0), w[3]);
            Bench.refused(x, "stands" + of, x.stands(w[0], w[1], w[2]), w[3]);
            Bench.refused(x, "trades" + of, x.trades(w[0], w[1], w[2]), w[3]);
            Bench.refused(x, "trade" + of, x.trade(w[0], w[1], w[2], 0, 0), w[3]);
            Bench.refused(x, "within" + of, x.within(w[0], w[1], w[2], 0), w[3]);
        }
        Bench.good(x, "arrives(0, 1, 1999)", x.arrives(0, 1, 1999), -2);
    }

    private static void order() {
        LinkTimes x = Bench.with(ALIKE);
        // Fewest departures, then the least row.
        way(x, 0, 2, 0, new int[] {9, 0, 1, 2}, 2, 3);
        x.cancel(3);
        way(x, 0, 2, 0, new int[] {9, 0, 1, 3}, 2, 6);
        x.cancel(2);
        way(x, 0, 2, 0, new int[] {9, 0, 1, 3}, 4, 5);
        x.cancel(5);
        way(x, 0, 2, 0, new int[] {9, 0, 1, 3}, 0, 1, 6);
        // That which LEAVES last is ahead of fewer departures.
        x.undo();
        x.delay(0, 1);
        x.delay(1, 1);
        way(x, 0, 2, 0, new int[] {9, 0, 2, 2}, 0, 1, 6);
        x = Bench.with(TRADES);
        // Fewer changes are ahead of leaving last: 5 by 0 changes, 9 and 6 by more.
        way(x, 0, 2, 0, new int[] {20, 1, 6, 3}, 4, 3);
        x.extra(0, 0, 2, 0, 20);
        way(x, 0, 2, 0, new int[] {20, 0, 0, 0}, 5);
        way(x, 0, 2, 1, new int[] {20, 1, 6, 3}, 4, 3);
    }

    /** What follows one departure is chosen by the same rules. */
    private static void orderBehind() {
        // From b all ARRIVE at 20: by x and y and then c, by z and then c; both ways round by numbers.
        String head = "desk span 50;spot a change 0;spot b change 0;spot c change 0;spot x change 0;spot y change 0;"
                + "spot z change 0;line r;line g;link r a b from 1 till 1 every 1 takes 1;";
        String three = ";link r b x from 3 till 3 every 1 takes 1;link r x y from 5 till 5 every 1 takes 1;"
                + "link r y c from 7 till 7 every 1 takes 13";
        String two = ";link r b z from 4 till 4 every 1 takes 1;link r z c from 6 till 6 every 1 takes 14";
        LinkTimes x = Bench.with(head.substring(0, head.length() - 1) + three + two);
        way(x, 0, 2, 0, new int[] {20, 0, 1, 3}, 0, 4, 5);
        x = Bench.with(head.substring(0, head.length() - 1) + two + three);
        way(x, 0, 2, 0, new int[] {20, 0, 1, 3}, 0, 1, 2);
        x.delay(3, 2);
        way(x, 0, 2, 0, new int[] {20, 0, 1, 3}, 0, 1, 2);
        // With a change in it the shorter one is behind the longer one.
        x.cancel(1);
        x.delay(3, 0);
        x.extra(1, 1, 5, 4, 1);
        way(x, 0, 2, 0, new int[] {20, 0, 1, 3}, 0, 3, 4, 5);
        x.cancel(4);
        way(x, 0, 2, 0, new int[] {20, 2, 1, 3}, 0, 6, 2);
        // Of like ones the least number, though it LEAVES later.
        x.run(1);
        x.delay(1, 1);
        x.extra(0, 1, 5, 3, 1);
        way(x, 0, 2, 0, new int[] {20, 0, 1, 3}, 0, 1, 2);
    }

    private static void changeAndWait() {
        // One who comes early to c waits too long there; one who comes later doesn't.
        LinkTimes x = Bench.with("desk span 50;spot a change 9;spot c change 3 wait 5;spot d change 9;line r;line g;"
                + "link r a c from 0 till 0 every 1 takes 5;link r a c from 2 till 2 every 1 takes 7;"
                + "link r c d from 12 till 12 every 1 takes 1;link g c d from 11 till 12 every 1 takes 1");
        way(x, 0, 2, 0, new int[] {13, 0, 2, 3}, 1, 2);
        x.cancel(2);
        way(x, 0, 2, 0, new int[] {13, 1, 2, 3}, 1, 4);
        x.change(1, 4);
        Bench.due("arrives() with CHANGE 4", x.arrives(0, 2, 0), -2);
        x.run(2);
        Bench.due("arrives() of the same line", x.arrives(0, 2, 0), 13);
        x.hold(1, 2);
        Bench.due("arrives() with WAIT 2: of the same line, too", x.arrives(0, 2, 0), -2);
        x.hold(1, 7);
        way(x, 0, 2, 0, new int[] {12, 1, 0, 6}, 0, 3);
        // Only at the first SPOT one may wait as long as one likes; CHANGE means nothing there.
        way(x, 1, 2, 0, new int[] {12, 0, 11, 0}, 3);
        way(x, 1, 2, 12, new int[] {13, 0, 12, 0}, 2);
        // No earlier than the one ahead ARRIVES, also without a CHANGE.
        x = Bench.with("desk span 50;spot a change 0;spot b change 0 wait 0;spot c change 0;line r;"
                + "link r a b from 1 till 1 every 1 takes 4;link r b c from 4 till 6 every 1 takes 1");
        way(x, 0, 2, 0, new int[] {6, 0, 1, 0}, 0, 2);
    }

    private static void tradeCalls() {
        LinkTimes x = Bench.with(TRADES);
        Bench.good(x, "trades(0, 2, 0)", x.trades(0, 2, 0), 2);
        int[][] want = {{35, 0, 5}, {20, 1, 6}};
        for (int i = 0; i < 2; i++) {
            for (int what = 0; what <= 2; what++) {
                Bench.good(x, "trade(0, 2, 0, " + i + ", " + what + ")", x.trade(0, 2, 0, i, what), want[i][what]);
            }
        }
        Bench.refused(x, "trade(0, 2, 0, 2, 0)", x.trade(0, 2, 0, 2, 0), 1);
        Bench.refused(x, "trade(0, 2, 0, -1, 0)", x.trade(0, 2, 0, -1, 0), 1);
        Bench.refused(x, "trade(0, 2, 0, 0, 3)", x.trade(0, 2, 0, 0, 3), 1);
        Bench.refused(x, "trade(0, 2, 0, 0, -1)", x.trade(0, 2, 0, 0, -1), 1);
        Bench.good(x, "trades(0, 2, 7)", x.trades(0, 2, 7), 1);
        Bench.good(x, "trade(0, 2, 7, 0, 0)", x.trade(0, 2, 7, 0, 0), 39);
        Bench.good(x, "trade(0, 2, 7, 0, 2)", x.trade(0, 2, 7, 0, 2), 9);
        x.delay(1, 0);
        x.extra(0, 0, 2, 8, 27);
        Bench.good(x, "trade(0, 2, 0, 0, 2): the latest of that pair", x.trade(0, 2, 0, 0, 2), 8);
        // Each departure gets to c without a change; one change is sooner all the same.
        x = Bench.with("desk span 50;spot a change 1;spot b change 1;spot c change 1;line r;line g;"
                + "link r a b from 5 till 5 every 1 takes 5;link r b c from 12 till 12 every 1 takes 18;"
                + "link g b c from 12 till 12 every 1 takes 8");
        Bench.good(x, "trades(0, 2, 0) of one line and of two", x.trades(0, 2, 0), 2);
        Bench.good(x, "trade(0, 2, 0, 0, 0) of one line", x.trade(0, 2, 0, 0, 0), 30);
        Bench.good(x, "trade(0, 2, 0, 1, 0) of two lines", x.trade(0, 2, 0, 1, 0), 20);
    }

    private static void withinCall() {
        LinkTimes x = Bench.with(TRADES);
        Bench.good(x, "within(0, 2, 0, 0)", x.within(0, 2, 0, 0), 35);
        Bench.good(x, "within(0, 2, 0, 1)", x.within(0, 2, 0, 1), 20);
        Bench.good(x, "within(0, 2, 0, 20)", x.within(0, 2, 0, 20), 20);
        Bench.refused(x, "within(0, 2, 0, 21)", x.within(0, 2, 0, 21), 2);
        Bench.refused(x, "within(0, 2, 0, -1)", x.within(0, 2, 0, -1), 2);
        Bench.refused(x, "within(0, 3, 0, -1)", x.within(0, 3, 0, -1), 1);
        x.cancel(0);
        x.cancel(1);
        Bench.good(x, "within(0, 2, 0, 0) without 0, 1", x.within(0, 2, 0, 0), -2);
    }

    /** To and fro between two spots by changing lines, up to the most departures. */
    private static void longWay() {
        LinkTimes x = Bench.with("desk span 999;spot a change 0;spot b change 0 wait 0;spot c change 0 wait 0;"
                + "spot d change 0;line r;line g;link r a b from 0 till 0 every 1 takes 1;"
                + "link g b c from 1 till 117 every 2 takes 1;link r c b from 2 till 116 every 2 takes 1;"
                + "link r c d from 118 till 118 every 1 takes 1");
        Bench.due("about(4)", x.about(4), 119);
        Bench.good(x, "arrives(0, 3, 0)", x.arrives(0, 3, 0), 119);
        Bench.good(x, "rides(0, 3, 0)", x.rides(0, 3, 0), 119);
        Bench.good(x, "changes(0, 3, 0)", x.changes(0, 3, 0), 118);
        Bench.good(x, "ride(0, 3, 0, 118)", x.ride(0, 3, 0, 118), 118);
        Bench.good(x, "stands(0, 3, 0)", x.stands(0, 3, 0), 0);
        Bench.good(x, "trade(0, 3, 0, 0, 1)", x.trade(0, 3, 0, 0, 1), 118);
        Bench.good(x, "within(0, 3, 0, 20)", x.within(0, 3, 0, 20), -2);
        Bench.good(x, "vital(0, 3, 0)", x.vital(0, 3, 0), 119);
        // The WAIT of 0 at c holds for the last one, too.
        x.delay(118, 1);
        Bench.good(x, "arrives(0, 3, 0) with the last one late", x.arrives(0, 3, 0), -2);
    }
}
