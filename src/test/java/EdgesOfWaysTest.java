import java.io.IOException;

/** Promises 10 to 18, sentence by sentence: the BEST WAY, and arrivals against changes. */
public final class EdgesOfWaysTest {
    private static final int A = Edges.A;
    private static final int B = Edges.B;
    private static final int C = Edges.C;
    private static final int D = Edges.D;
    private static final int E = Edges.E;

    /** From s to z by to and fro between a and b: 20 changes, one a tick, and no other way. */
    private static final String TWENTY = toAndFro(18, "link g b z from 20 till 20 every 1 takes 1");
    private static final String TWENTY_ONE = toAndFro(20, "link r a z from 21 till 21 every 1 takes 1");

    /** All that a text has room for, as late as can be: departures 0 .. 117 and, at 999, 118 a-b, 119 b-c. */
    private static final String LATE = "desk span 999;spot a change 99;spot b change 99;spot c change 99;line r;line g;"
            + "link r a b from 1 till 118 every 1 takes 1;link r a b from 999 till 999 every 1 takes 99;"
            + "link g b c from 999 till 999 every 1 takes 99";

    public static void main(String[] args) throws IOException {
        promise10();
        promise10Refused();
        promise11();
        promise11Refused();
        promise12();
        promise12Without();
        promise12Refused();
        promise13();
        promise13Refused();
        promise14();
        promise14Refused();
        promise14TooMany();
        promise15();
        promise15Refused();
        promise16();
        promise16LeftOut();
        promise16Refused();
        promise17();
        promise17Latest();
        promise17Without();
        promise17Refused();
        promise17Which();
        promise18();
        promise18Refused();
        Edges.end("EdgesOfWaysTest", 10, 18);
    }

    private static String toAndFro(int lastBack, String end) {
        return "desk span 99;spot s change 0;spot a change 0 wait 0;spot b change 0 wait 0;spot z change 0;"
                + "line g;line r;link g s a from 0 till 0 every 1 takes 1;link r a b from 1 till 19 every 2 takes 1;"
                + "link g b a from 2 till " + lastBack + " every 2 takes 1;" + end;
    }

    /** What calls of one form refuse: numbers that are no SPOTS, and no TIMES. */
    private static void refusals(LinkTimes x, String call, Edges.One first, Edges.One other, Edges.One time) {
        Edges.spots(x, call + " by its first spot", first);
        Edges.spots(x, call + " by its other spot", other);
        Edges.times(x, call + " by its time", time);
    }

    private static void promise10() {
        Edges.of(10, "When it ARRIVES.");
        LinkTimes x = Edges.desk();
        Bench.good(x, "arrives(a, c, 0)", x.arrives(A, C, 0), 30);
        Bench.good(x, "arrives(a, c, 10)", x.arrives(A, C, 10), 30);
        Bench.good(x, "arrives(a, c, 11)", x.arrives(A, C, 11), 50);
        Bench.good(x, "arrives(a, c, 50)", x.arrives(A, C, 50), 70);
        Bench.good(x, "arrives(a, c, 51)", x.arrives(A, C, 51), -2);
        Bench.good(x, "arrives(a, c, 1999)", x.arrives(A, C, 1999), -2);
        Bench.good(x, "arrives(e, e, 0)", x.arrives(E, E, 0), 0);
        Bench.good(x, "arrives(e, e, 1999)", x.arrives(E, E, 1999), 1999);
        // The latest that a DEPARTURE can ARRIVE.
        LinkTimes late = Bench.with(LATE);
        late.delay(118, 99);
        Bench.good(late, "arrives(a, b, 1098)", late.arrives(A, B, 1098), 1197);
        Bench.good(late, "arrives(a, b, 1099)", late.arrives(A, B, 1099), -2);
    }

    private static void promise10Refused() {
        Edges.of(10, "NONE: 1; 2.");
        LinkTimes x = Edges.desk();
        refusals(x, "arrives", s -> x.arrives(s, B, 0), s -> x.arrives(A, s, 0), t -> x.arrives(A, B, t));
        Edges.refuses(x, "arrives(d, a, t) without a WAY", 2, t -> x.arrives(D, A, t), -1, 2000);
        Edges.refuses(x, "arrives(e, e, t)", 2, t -> x.arrives(E, E, t), -1, 2000);
    }

    private static void promise11() {
        Edges.of(11, "How many CHANGES it has.");
        LinkTimes x = Edges.desk();
        Bench.good(x, "changes(a, b, 0)", x.changes(A, B, 0), 0);
        Bench.good(x, "changes(a, c, 0)", x.changes(A, C, 0), 1);
        Bench.good(x, "changes(a, d, 0): going on by the same LINE is none", x.changes(A, D, 0), 1);
        Bench.good(x, "changes(b, d, 0)", x.changes(B, D, 0), 0);
        Bench.good(x, "changes(a, c, 50)", x.changes(A, C, 50), 1);
        Bench.good(x, "changes(e, e, 0)", x.changes(E, E, 0), 0);
        Bench.good(x, "changes(a, c, 51)", x.changes(A, C, 51), -2);
        LinkTimes many = Bench.with(TWENTY_ONE);
        Bench.good(many, "changes(s, z, 0)", many.changes(0, 3, 0), 21);
    }

    private static void promise11Refused() {
        Edges.of(11, "NONE: 1; 2.");
        LinkTimes x = Edges.desk();
        refusals(x, "changes", s -> x.changes(s, B, 0), s -> x.changes(A, s, 0), t -> x.changes(A, B, t));
    }

    private static void promise12() {
        Edges.of(12, "When its first DEPARTURE LEAVES");
        LinkTimes x = Edges.desk();
        Bench.good(x, "leaves(a, c, 0)", x.leaves(A, C, 0), 10);
        Bench.good(x, "leaves(a, c, 10)", x.leaves(A, C, 10), 10);
        Bench.good(x, "leaves(a, c, 11)", x.leaves(A, C, 11), 30);
        Bench.good(x, "leaves(a, d, 0): the last of three that ARRIVE at once", x.leaves(A, D, 0), 50);
        Bench.good(x, "leaves(a, d, 50)", x.leaves(A, D, 50), 50);
        Bench.good(x, "leaves(a, d, 51)", x.leaves(A, D, 51), -2);
        x.delay(2, 0);
        x.delay(0, 99);
        Bench.good(x, "leaves(a, b, 60)", x.leaves(A, B, 60), 109);
    }

    private static void promise12Without() {
        Edges.of(12, "(t without any).");
        LinkTimes x = Edges.desk();
        Bench.good(x, "leaves(a, a, 0)", x.leaves(A, A, 0), 0);
        Bench.good(x, "leaves(a, a, 11)", x.leaves(A, A, 11), 11);
        Bench.good(x, "leaves(e, e, 1999)", x.leaves(E, E, 1999), 1999);
    }

    private static void promise12Refused() {
        Edges.of(12, "NONE: 1; 2.");
        LinkTimes x = Edges.desk();
        refusals(x, "leaves", s -> x.leaves(s, B, 0), s -> x.leaves(A, s, 0), t -> x.leaves(A, B, t));
        Edges.refuses(x, "leaves(a, a, t)", 2, t -> x.leaves(A, A, t), -1, 2000);
    }

    private static void promise13() {
        Edges.of(13, "How many DEPARTURES it has.");
        LinkTimes x = Edges.desk();
        Bench.good(x, "rides(a, a, 0)", x.rides(A, A, 0), 0);
        Bench.good(x, "rides(a, b, 0)", x.rides(A, B, 0), 1);
        Bench.good(x, "rides(a, d, 0)", x.rides(A, D, 0), 3);
        Bench.good(x, "rides(a, d, 51)", x.rides(A, D, 51), -2);
        // All of 120, one behind the other.
        LinkTimes most = Bench.with("desk span 999;spot s change 0;spot a change 0 wait 0;spot b change 0 wait 0;"
                + "spot z change 0;line g;line r;link g s a from 0 till 0 every 1 takes 1;"
                + "link r a b from 1 till 117 every 2 takes 1;link g b a from 2 till 118 every 2 takes 1;"
                + "link r a z from 119 till 119 every 1 takes 1");
        Bench.good(most, "about(4)", most.about(4), 120);
        Bench.good(most, "rides(s, z, 0)", most.rides(0, 3, 0), 120);
        Bench.good(most, "changes(s, z, 0)", most.changes(0, 3, 0), 119);
        Bench.good(most, "ride(s, z, 0, 119)", most.ride(0, 3, 0, 119), 119);
        Bench.good(most, "trades(s, z, 0)", most.trades(0, 3, 0), 1);
        Bench.good(most, "trade(s, z, 0, 0, 1)", most.trade(0, 3, 0, 0, 1), 119);
        Bench.good(most, "step(s, z, 0, 2)", most.step(0, 3, 0, 2), 119);
        Bench.good(most, "vital(s, z, 0)", most.vital(0, 3, 0), 120);
    }

    private static void promise13Refused() {
        Edges.of(13, "NONE: 1; 2.");
        LinkTimes x = Edges.desk();
        refusals(x, "rides", s -> x.rides(s, B, 0), s -> x.rides(A, s, 0), t -> x.rides(A, B, t));
    }

    private static void promise14() {
        Edges.of(14, "The i-th of them.");
        LinkTimes x = Edges.desk();
        int[] rides = {2, 5, 7};
        for (int i = 0; i < rides.length; i++) {
            Bench.good(x, "ride(a, d, 0, " + i + ")", x.ride(A, D, 0, i), rides[i]);
        }
        Bench.good(x, "ride(a, d, 51, 0) without a WAY", x.ride(A, D, 51, 0), -2);
    }

    private static void promise14Refused() {
        Edges.of(14, "NONE: 1; 2;");
        LinkTimes x = Edges.desk();
        refusals(x, "ride", s -> x.ride(s, s == B ? C : B, 0, 0), s -> x.ride(A, s == A ? B : s, 0, 0),
                t -> x.ride(A, B, t, 0));
    }

    private static void promise14TooMany() {
        Edges.of(14, "1 (i: it has no so many).");
        LinkTimes x = Edges.desk();
        Edges.range(x, "ride(a, d, 0, i)", 1, 0, 2, i -> x.ride(A, D, 0, i));
        Edges.range(x, "ride(a, b, 0, i)", 1, 0, 0, i -> x.ride(A, B, 0, i));
        Edges.refuses(x, "ride(a, a, 0, i): it has none", 1, i -> x.ride(A, A, 0, i), -1, 0, 1);
    }

    private static void promise15() {
        Edges.of(15, "How many TICKS of the BEST WAY one spends at SPOTS between DEPARTURES (not ahead of the first).");
        LinkTimes x = Edges.desk();
        Bench.good(x, "stands(a, b, 0): ahead of the first", x.stands(A, B, 0), 0);
        Bench.good(x, "stands(a, c, 0)", x.stands(A, C, 0), 5);
        Bench.good(x, "stands(a, d, 0): 5 at b and none at c", x.stands(A, D, 0), 5);
        x.cancel(5);
        Bench.good(x, "stands(a, d, 0): 5 at b and 20 at c", x.stands(A, D, 0), 25);
        Bench.good(x, "stands(b, d, 0): 20 at c", x.stands(B, D, 0), 20);
        Bench.good(x, "stands(e, e, 7)", x.stands(E, E, 7), 0);
        Bench.good(x, "stands(a, d, 51)", x.stands(A, D, 51), -2);
    }

    private static void promise15Refused() {
        Edges.of(15, "NONE: 1; 2.");
        LinkTimes x = Edges.desk();
        refusals(x, "stands", s -> x.stands(s, B, 0), s -> x.stands(A, s, 0), t -> x.stands(A, B, t));
    }

    private static void promise16() {
        Edges.of(16, "How many pairs of ARRIVES and CHANGES of WAYS there are,");
        LinkTimes x = Edges.desk();
        Bench.good(x, "trades(a, b, 0)", x.trades(A, B, 0), 1);
        Bench.good(x, "trades(a, c, 0): 100 by none, 30 by one", x.trades(A, C, 0), 2);
        Bench.good(x, "trades(a, c, 50)", x.trades(A, C, 50), 2);
        Bench.good(x, "trades(a, c, 51)", x.trades(A, C, 51), -2);
        Bench.good(x, "trades(e, e, 1999)", x.trades(E, E, 1999), 1);
        // Two WAYS of one pair are one.
        x.extra(0, A, C, 50, 50);
        Bench.good(x, "trades(a, c, 0) with two of 100 by none", x.trades(A, C, 0), 2);
        // No DEPARTURE but one that gets to z without a CHANGE; by one it is sooner all the same.
        LinkTimes y = Bench.with("desk span 50;spot s change 1;spot m change 1;spot z change 1;line r;line g;"
                + "link r s m from 5 till 5 every 1 takes 5;link r m z from 12 till 12 every 1 takes 18;"
                + "link g m z from 12 till 12 every 1 takes 8");
        Bench.good(y, "trades(s, z, 0): 30 by none, 20 by one", y.trades(0, 2, 0), 2);
    }

    private static void promise16LeftOut() {
        Edges.of(16, "but those for which another WAY has neither more, one of them less.");
        LinkTimes x = Edges.desk();
        x.extra(0, A, C, 20, 11);
        Bench.good(x, "trades(a, c, 0): 31 by none, 30 by one", x.trades(A, C, 0), 2);
        x.delay(3, 1);
        Bench.good(x, "trades(a, c, 0): 31 by none, 31 by one is left out", x.trades(A, C, 0), 1);
        Bench.good(x, "trade(a, c, 0, 0, 1)", x.trade(A, C, 0, 0, 1), 0);
        x.delay(8, 1);
        Bench.good(x, "trades(a, c, 0): 32 by none, 31 by one", x.trades(A, C, 0), 2);
        // Three of them, and between them one that is later than one of fewer CHANGES.
        LinkTimes y = Bench.with("desk span 99;spot s change 0;spot m change 0;spot n change 0;spot z change 0;line r;"
                + "line g;line k");
        y.extra(0, 0, 3, 0, 50);
        y.extra(0, 0, 1, 0, 1);
        y.extra(1, 1, 3, 10, 41);
        y.extra(1, 1, 2, 1, 1);
        y.extra(2, 2, 3, 2, 30);
        Bench.good(y, "trades(s, z, 0): 50 by none, 32 by two, 51 by one is left out", y.trades(0, 3, 0), 2);
        Bench.good(y, "trade(s, z, 0, 1, 1)", y.trade(0, 3, 0, 1, 1), 2);
        y.delay(0, 2);
        Bench.good(y, "trades(s, z, 0): 52 by none, 51 by one, 32 by two", y.trades(0, 3, 0), 3);
    }

    private static void promise16Refused() {
        Edges.of(16, "NONE: 1; 2.");
        LinkTimes x = Edges.desk();
        refusals(x, "trades", s -> x.trades(s, B, 0), s -> x.trades(A, s, 0), t -> x.trades(A, B, t));
    }

    private static void promise17() {
        Edges.of(17, "Of the i-th of them, by CHANGES rising, 0 ARRIVES, 1 CHANGES,");
        LinkTimes x = Edges.desk();
        int[][] told = {{100, 0}, {30, 1}};
        for (int i = 0; i < 2; i++) {
            Bench.good(x, "trade(a, c, 0, " + i + ", 0)", x.trade(A, C, 0, i, 0), told[i][0]);
            Bench.good(x, "trade(a, c, 0, " + i + ", 1)", x.trade(A, C, 0, i, 1), told[i][1]);
        }
        Bench.good(x, "trade(a, c, 51, 0, 0) without a WAY", x.trade(A, C, 51, 0, 0), -2);
        // Asked again, it is the same: e-a, then 0, then 3 and 7.
        x.extra(1, E, A, 0, 5);
        for (int k = 0; k < 3; k++) {
            Bench.good(x, "trade(e, d, 0, 0, 0)", x.trade(E, D, 0, 0, 0), 100);
            Bench.good(x, "trade(e, d, 0, 0, 1)", x.trade(E, D, 0, 0, 1), 2);
        }
    }

    private static void promise17Latest() {
        Edges.of(17, "2 the latest LEAVES of the first DEPARTURE of WAYS of that pair");
        LinkTimes x = Edges.desk();
        Bench.good(x, "trade(a, c, 0, 0, 2): of 30 and 50", x.trade(A, C, 0, 0, 2), 50);
        Bench.good(x, "trade(a, c, 0, 1, 2)", x.trade(A, C, 0, 1, 2), 10);
        Bench.good(x, "trade(a, d, 0, 0, 2): of 10, 30 and 50", x.trade(A, D, 0, 0, 2), 50);
        Bench.good(x, "trade(a, d, 50, 0, 2)", x.trade(A, D, 50, 0, 2), 50);
        x.cancel(2);
        Bench.good(x, "trade(a, c, 0, 0, 2) without 2: WAIT of 20 is just enough", x.trade(A, C, 0, 0, 2), 30);
        // A WAY that LEAVES later, but ARRIVES later too, is of another pair.
        x.run(2);
        x.extra(0, A, C, 60, 41);
        Bench.good(x, "trade(a, c, 0, 0, 2) with one that ARRIVES later", x.trade(A, C, 0, 0, 2), 50);
    }

    private static void promise17Without() {
        Edges.of(17, "(t without any).");
        LinkTimes x = Edges.desk();
        for (int t : new int[] {0, 10, 1999}) {
            Bench.good(x, "trade(a, a, " + t + ", 0, 0)", x.trade(A, A, t, 0, 0), t);
            Bench.good(x, "trade(a, a, " + t + ", 0, 1)", x.trade(A, A, t, 0, 1), 0);
            Bench.good(x, "trade(a, a, " + t + ", 0, 2)", x.trade(A, A, t, 0, 2), t);
        }
    }

    private static void promise17Refused() {
        Edges.of(17, "NONE: 1; 2;");
        LinkTimes x = Edges.desk();
        refusals(x, "trade", s -> x.trade(s, B, 0, 0, 0), s -> x.trade(A, s, 0, 0, 0), t -> x.trade(A, B, t, 0, 0));
    }

    private static void promise17Which() {
        Edges.of(17, "1 (i, what).");
        LinkTimes x = Edges.desk();
        for (int what = 0; what <= 2; what++) {
            int asked = what;
            Edges.range(x, "trade(a, c, 0, i, " + what + ")", 1, 0, 1, i -> x.trade(A, C, 0, i, asked));
            Edges.range(x, "trade(e, e, 0, i, " + what + ")", 1, 0, 0, i -> x.trade(E, E, 0, i, asked));
        }
        Edges.range(x, "trade(a, c, 0, 0, what)", 1, 0, 2, what -> x.trade(A, C, 0, 0, what));
        Edges.range(x, "trade(a, c, 0, 1, what)", 1, 0, 2, what -> x.trade(A, C, 0, 1, what));
        Edges.range(x, "trade(e, e, 0, 0, what)", 1, 0, 2, what -> x.trade(E, E, 0, 0, what));
    }

    private static void promise18() {
        Edges.of(18, "When the first WAY with k CHANGES (0 .. 20) at most ARRIVES.");
        LinkTimes x = Edges.desk();
        Bench.good(x, "within(a, c, 0, 0)", x.within(A, C, 0, 0), 100);
        Bench.good(x, "within(a, c, 0, 1)", x.within(A, C, 0, 1), 30);
        Bench.good(x, "within(a, c, 0, 20)", x.within(A, C, 0, 20), 30);
        Bench.good(x, "within(a, d, 0, 0)", x.within(A, D, 0, 0), -2);
        Bench.good(x, "within(a, c, 51, 20)", x.within(A, C, 51, 20), -2);
        Bench.good(x, "within(e, e, 1999, 0)", x.within(E, E, 1999, 0), 1999);
        LinkTimes twenty = Bench.with(TWENTY);
        Bench.good(twenty, "within(s, z, 0, 20) by just 20", twenty.within(0, 3, 0, 20), 21);
        Bench.good(twenty, "within(s, z, 0, 19) by just 20", twenty.within(0, 3, 0, 19), -2);
        LinkTimes more = Bench.with(TWENTY_ONE);
        Bench.good(more, "within(s, z, 0, 20) by just 21", more.within(0, 3, 0, 20), -2);
        Bench.good(more, "arrives(s, z, 0) by just 21", more.arrives(0, 3, 0), 22);
    }

    private static void promise18Refused() {
        Edges.of(18, "NONE: 1; 2 (t, k).");
        LinkTimes x = Edges.desk();
        refusals(x, "within", s -> x.within(s, B, 0, 0), s -> x.within(A, s, 0, 0), t -> x.within(A, B, t, 0));
        Edges.range(x, "within(a, b, 0, k)", 2, 0, 20, k -> x.within(A, B, 0, k));
        Edges.refuses(x, "within(e, e, 0, k)", 2, k -> x.within(E, E, 0, k), -1, 21);
        Edges.refuses(x, "within(d, a, 0, k) without a WAY", 2, k -> x.within(D, A, 0, k), -1, 21);
    }
}
