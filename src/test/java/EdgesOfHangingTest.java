import java.io.IOException;

/** Promises 33 to 36, sentence by sentence: what a way hangs on. */
public final class EdgesOfHangingTest {
    private static final int A = Edges.A;
    private static final int B = Edges.B;
    private static final int C = Edges.C;
    private static final int D = Edges.D;
    private static final int E = Edges.E;
    private static final int R_LINE = 0;
    private static final int G_LINE = 1;

    public static void main(String[] args) throws IOException {
        promise33();
        promise33NoneThen();
        promise33None();
        promise33Refused();
        promise34();
        promise34None();
        promise34Refused();
        promise35();
        promise35Range();
        promise35EachNoGreater();
        promise35None();
        promise35Refused();
        promise36One();
        promise36Two();
        promise36Three();
        promise36Four();
        promise36Behind();
        promise36Refused();
        Edges.end("EdgesOfHangingTest", 33, 36);
    }

    private static void promise33() {
        Edges.of(33, "How much later the BEST WAY would ARRIVE, if a DEPARTURE didn't RUN;");
        LinkTimes x = Edges.desk();
        Bench.good(x, "needs(a, c, 0, 0)", x.needs(A, C, 0, 0), 20);
        Bench.good(x, "needs(a, c, 0, 3)", x.needs(A, C, 0, 3), 20);
        Bench.good(x, "needs(a, c, 0, 1): not ridden", x.needs(A, C, 0, 1), 0);
        Bench.good(x, "needs(a, d, 0, 2): ridden, another WAY is as soon", x.needs(A, D, 0, 2), 0);
        Bench.good(x, "needs(a, c, 31, 5)", x.needs(A, C, 31, 5), 30);
        Bench.good(x, "needs(e, e, 1999, 7): without DEPARTURES", x.needs(E, E, 1999, 7), 0);
        x.cancel(0);
        Bench.good(x, "needs(a, c, 0, 0): it doesn't RUN", x.needs(A, C, 0, 0), 0);
        Bench.good(x, "departure(3, 6): it RUNS still", x.departure(3, 6), 1);
    }

    private static void promise33NoneThen() {
        Edges.of(33, "-2 there would be none then,");
        LinkTimes x = Edges.desk();
        Bench.good(x, "needs(c, d, 0, 7)", x.needs(C, D, 0, 7), -2);
        Bench.good(x, "needs(a, c, 31, 2)", x.needs(A, C, 31, 2), -2);
        Bench.good(x, "needs(a, c, 30, 2)", x.needs(A, C, 30, 2), 0);
    }

    private static void promise33None() {
        Edges.of(33, "-3 there is none.");
        LinkTimes x = Edges.desk();
        Bench.good(x, "needs(a, c, 51, 0)", x.needs(A, C, 51, 0), -3);
        Bench.good(x, "needs(d, a, 0, 0)", x.needs(D, A, 0, 0), -3);
        Bench.good(x, "needs(a, b, 1999, 7)", x.needs(A, B, 1999, 7), -3);
        x.cancel(7);
        Bench.good(x, "needs(c, d, 0, 7) cancelled", x.needs(C, D, 0, 7), -3);
    }

    private static void promise33Refused() {
        Edges.of(33, "NONE: 1 (SPOTS, DEPARTURE); 2.");
        LinkTimes x = Edges.desk();
        Edges.spots(x, "needs(s, a, 0, 0)", s -> x.needs(s, A, 0, 0));
        Edges.spots(x, "needs(a, s, 0, 0)", s -> x.needs(A, s, 0, 0));
        Edges.departures(x, "needs(a, b, 0, d)", d -> x.needs(A, B, 0, d));
        Edges.times(x, "needs(a, b, t, 0)", t -> x.needs(A, B, t, 0));
        Edges.refuses(x, "needs(a, b, 2000, d)", 1, d -> x.needs(A, B, 2000, d), -1, 8);
        LinkTimes empty = Bench.with("desk span 9;spot a change 0");
        Bench.refused(empty, "needs(a, a, 0, 0) without departures", empty.needs(0, 0, 0, 0), 1);
    }

    private static void promise34() {
        Edges.of(34, "How many DEPARTURES there are by which it would be later, or none, if just that one didn't RUN;");
        LinkTimes x = Edges.desk();
        Bench.good(x, "vital(a, c, 0): later without 0, or 3", x.vital(A, C, 0), 2);
        Bench.good(x, "vital(a, d, 0): none without 7", x.vital(A, D, 0), 1);
        Bench.good(x, "vital(a, d, 31): 2, 5 and 7", x.vital(A, D, 31), 3);
        Bench.good(x, "vital(e, e, 0)", x.vital(E, E, 0), 0);
        x.extra(0, A, B, 10, 10);
        x.extra(1, B, C, 25, 5);
        Bench.good(x, "vital(a, c, 0): each is there twice", x.vital(A, C, 0), 0);
        x.delay(8, 1);
        Bench.good(x, "vital(a, c, 0): 8 is too late to change", x.vital(A, C, 0), 1);
    }

    private static void promise34None() {
        Edges.of(34, "-2 there is none.");
        LinkTimes x = Edges.desk();
        Bench.good(x, "vital(a, c, 51)", x.vital(A, C, 51), -2);
        Bench.good(x, "vital(d, a, 0)", x.vital(D, A, 0), -2);
        Bench.good(x, "vital(a, b, 1999)", x.vital(A, B, 1999), -2);
    }

    private static void promise34Refused() {
        Edges.of(34, "NONE: 1; 2.");
        LinkTimes x = Edges.desk();
        Edges.spots(x, "vital(s, a, 0)", s -> x.vital(s, A, 0));
        Edges.spots(x, "vital(a, s, 0)", s -> x.vital(A, s, 0));
        Edges.times(x, "vital(a, b, t)", t -> x.vital(A, B, t));
        Bench.refused(x, "vital(5, a, -1)", x.vital(5, A, -1), 1);
    }

    private static void promise35() {
        Edges.of(35, "By how many TICKS");
        LinkTimes x = Edges.desk();
        Bench.good(x, "slack(a, c, 0, 0): CHANGE is just enough", x.slack(A, C, 0, 0), 0);
        Bench.good(x, "slack(a, c, 0, 3): the last one", x.slack(A, C, 0, 3), 0);
        x.change(B, 4);
        Bench.good(x, "slack(a, c, 0, 0) with CHANGE 4", x.slack(A, C, 0, 0), 1);
        x.change(B, 0);
        Bench.good(x, "slack(a, c, 0, 0) with CHANGE 0", x.slack(A, C, 0, 0), 5);
        x.delay(0, 2);
        Bench.good(x, "slack(a, c, 0, 0): later than it does now", x.slack(A, C, 0, 0), 3);
        Bench.good(x, "departure(0, 5) stays", x.departure(0, 5), 2);
    }

    /** A departure a-b at 0, takes 1, and one b-c, takes 1, that leaves at a time. */
    private static LinkTimes two(int leaves) {
        return Bench.with("desk span 999;spot a change 0;spot b change 0;spot c change 0;line r;"
                + "link r a b from 0 till 0 every 1 takes 1;link r b c from " + leaves + " till " + leaves
                + " every 1 takes 1");
    }

    private static void promise35Range() {
        Edges.of(35, "(0 .. 99)");
        LinkTimes none = two(1);
        Bench.good(none, "slack() of 0", none.slack(0, 2, 0, 0), 0);
        LinkTimes one = two(2);
        Bench.good(one, "slack() of 1", one.slack(0, 2, 0, 0), 1);
        LinkTimes nearly = two(99);
        Bench.good(nearly, "slack() of 98", nearly.slack(0, 2, 0, 0), 98);
        LinkTimes just = two(100);
        Bench.good(just, "slack() of 99", just.slack(0, 2, 0, 0), 99);
        LinkTimes more = two(101);
        Bench.good(more, "slack() of more", more.slack(0, 2, 0, 0), 99);
        more.delay(0, 99);
        Bench.good(more, "slack() of a late one", more.slack(0, 2, 0, 0), 1);
        LinkTimes x = Edges.desk();
        Bench.good(x, "slack(a, c, 0, 1): not needed", x.slack(A, C, 0, 1), 99);
        Bench.good(x, "slack(a, d, 0, 2): ridden, not needed", x.slack(A, D, 0, 2), 99);
        Bench.good(x, "slack(e, e, 0, 0)", x.slack(E, E, 0, 0), 99);
    }

    private static void promise35EachNoGreater() {
        Edges.of(35, "a DEPARTURE can LEAVE later than it does at most, so that with each no greater number it ARRIVES no later;");
        // 0 a-b 10..15, WAIT 2 at b; 1 b-c 17..40 and 2 b-c 25..40: later by 3 .. 7 there is no WAY, by 8 .. 10 again.
        LinkTimes x = Bench.with("desk span 50;spot a change 0;spot b change 0 wait 2;spot c change 0;line r;"
                + "link r a b from 10 till 10 every 1 takes 5;link r b c from 17 till 17 every 1 takes 23;"
                + "link r b c from 25 till 25 every 1 takes 15");
        Bench.good(x, "slack(a, c, 0, 0)", x.slack(0, 2, 0, 0), 2);
        x.delay(0, 3);
        Bench.good(x, "slack(a, c, 0, 0) with DELAY 3", x.slack(0, 2, 0, 0), -2);
        x.delay(0, 8);
        Bench.good(x, "slack(a, c, 0, 0) with DELAY 8", x.slack(0, 2, 0, 0), 2);
        // One that LEAVES later is waited for too long.
        x.delay(0, 0);
        x.cancel(2);
        x.extra(0, 1, 2, 16, 24);
        x.cancel(1);
        Bench.good(x, "slack(a, c, 0, 3): WAIT ahead of it, and it ARRIVES later", x.slack(0, 2, 0, 3), 0);
        x.extra(0, 2, 0, 49, 1);
        x.extra(0, 0, 1, 30, 5);
        Bench.good(x, "slack(b, a, 0, 3): till 49 at c", x.slack(1, 0, 0, 3), 9);
        Bench.good(x, "slack(a, c, 11, 5)", x.slack(0, 2, 11, 5), -2);
        aheadOfIt();
    }

    /** One that leaves later may be waited for too long, or be met by another one instead. */
    private static void aheadOfIt() {
        // 0 a-b 10..15, WAIT 3 at b; 1 b-c 16..20; 2 c-d 50..55.
        LinkTimes x = Bench.with("desk span 60;spot a change 0;spot b change 0 wait 3;spot c change 0;spot d change 0;"
                + "line r;line g;link r a b from 10 till 10 every 1 takes 5;link r b c from 16 till 16 every 1 takes 4;"
                + "link r c d from 50 till 50 every 1 takes 5");
        Bench.good(x, "slack(a, d, 0, 1): WAIT ahead of it", x.slack(0, 3, 0, 1), 2);
        Bench.good(x, "slack(b, d, 0, 1): no WAIT at the first SPOT", x.slack(1, 3, 0, 1), 30);
        Bench.good(x, "slack(b, d, 16, 1)", x.slack(1, 3, 16, 1), 30);
        x.extra(R_LINE, 0, 1, 17, 2);
        Bench.good(x, "slack(a, d, 0, 1): 3 ARRIVES at 19, just in time", x.slack(0, 3, 0, 1), 6);
        x.delay(3, 1);
        Bench.good(x, "slack(a, d, 0, 1): 3 ARRIVES at 20, a TICK too late", x.slack(0, 3, 0, 1), 2);
        x.delay(3, 0);
        x.cancel(3);
        Bench.good(x, "slack(a, d, 0, 1): 3 doesn't RUN", x.slack(0, 3, 0, 1), 2);
        x.extra(G_LINE, 0, 1, 17, 2);
        Bench.good(x, "slack(a, d, 0, 1): by a CHANGE of 0", x.slack(0, 3, 0, 1), 6);
        x.change(1, 1);
        Bench.good(x, "slack(a, d, 0, 1): a CHANGE of 1, 18 is too early and 19 lost", x.slack(0, 3, 0, 1), 2);
        x.hold(1, -1);
        Bench.good(x, "slack(a, d, 0, 1): any WAIT", x.slack(0, 3, 0, 1), 30);
    }

    private static void promise35None() {
        Edges.of(35, "-2 there is none.");
        LinkTimes x = Edges.desk();
        Bench.good(x, "slack(a, c, 51, 0)", x.slack(A, C, 51, 0), -2);
        Bench.good(x, "slack(d, a, 0, 0)", x.slack(D, A, 0, 0), -2);
        // Were 2 late by 10 there would be a WAY: now there is none.
        Bench.good(x, "slack(a, b, 60, 2)", x.slack(A, B, 60, 2), -2);
        Bench.good(x, "slack(a, b, 1999, 2)", x.slack(A, B, 1999, 2), -2);
    }

    private static void promise35Refused() {
        Edges.of(35, "NONE: 1 (SPOTS, DEPARTURE); 2.");
        LinkTimes x = Edges.desk();
        Edges.spots(x, "slack(s, a, 0, 0)", s -> x.slack(s, A, 0, 0));
        Edges.spots(x, "slack(a, s, 0, 0)", s -> x.slack(A, s, 0, 0));
        Edges.departures(x, "slack(a, b, 0, d)", d -> x.slack(A, B, 0, d));
        Edges.times(x, "slack(a, b, t, 0)", t -> x.slack(A, B, t, 0));
        Edges.refuses(x, "slack(a, b, 2000, d)", 1, d -> x.slack(A, B, 2000, d), -1, 8);
    }

    private static void reasons(LinkTimes x, int a, int b, int t, int many) {
        for (int i = 0; i <= 5; i++) {
            Bench.good(x, "why(" + a + ", " + b + ", " + t + ", " + i + ")", x.why(a, b, t, i), i < many ? i + 1 : 0);
        }
    }

    private static void promise36One() {
        Edges.of(36, "Why there is no WAY: the i-th of up to four reasons, each the cause of the one ahead: 1 there is none;");
        LinkTimes x = Edges.desk();
        x.cancel(2);
        reasons(x, A, C, 31, 1);
        x.run(2);
        x.delay(2, 99);
        reasons(x, A, D, 31, 1);
        x.delay(2, 0);
        // One that came besides is one of all, and told without a DELAY.
        x.extra(0, D, E, 60, 1);
        reasons(x, D, E, 60, 0);
        x.cancel(8);
        reasons(x, D, E, 60, 1);
        // By DELAYS alone there is a WAY: without them there would be none, but that isn't asked.
        x.delay(7, 50);
        reasons(x, C, D, 71, 0);
    }

    private static void promise36Two() {
        Edges.of(36, "2 nor would there be, did all DEPARTURES RUN, without DELAYS;");
        LinkTimes x = Edges.desk();
        x.change(B, 6);
        reasons(x, A, D, 31, 2);
        x.change(B, 5);
        reasons(x, A, D, 31, 0);
        x.hold(B, 4);
        reasons(x, A, D, 31, 2);
        // At the first spot of all, where one is just a TICK too early to change, or waits one too long.
        LinkTimes y = Bench.with("desk span 60;spot a change 1;spot b change 0;spot c change 0;line r;line g;"
                + "link r b a from 1 till 1 every 1 takes 4;link g a c from 5 till 5 every 1 takes 4");
        reasons(y, 1, 2, 0, 2);
        y.change(0, 0);
        reasons(y, 1, 2, 0, 0);
        y = Bench.with("desk span 60;spot a change 0 wait 0;spot b change 0;spot c change 0;line r;line g;"
                + "link r b a from 1 till 1 every 1 takes 4;link g a c from 6 till 6 every 1 takes 4");
        reasons(y, 1, 2, 0, 2);
        y.hold(0, 1);
        reasons(y, 1, 2, 0, 0);
        // CHANGE 0 and WAIT any at once, at different spots.
        x.hold(B, 20);
        x.change(B, 6);
        x.delay(5, 1);
        reasons(x, A, D, 31, 2);
        // Waiting 20 at c would be a tick too long; but 5, did it RUN, needs no WAIT there.
        x.undo();
        x.undo();
        x.cancel(5);
        x.hold(C, 19);
        reasons(x, A, D, 11, 1);
    }

    private static void promise36Three() {
        Edges.of(36, "3 nor, were besides CHANGE of all SPOTS 0, WAIT any;");
        LinkTimes x = Edges.desk();
        reasons(x, A, C, 51, 3);
        reasons(x, A, C, 1999, 3);
        reasons(x, C, D, 71, 3);
        reasons(x, C, D, 70, 0);
        // What could be waited for, could one only wait, is reason enough at 1 and at 0.
        x.hold(B, 0);
        reasons(x, A, D, 1, 2);
        reasons(x, A, D, 0, 2);
        reasons(x, A, D, 50, 2);
        reasons(x, A, D, 51, 3);
    }

    private static void promise36Four() {
        Edges.of(36, "4 nor, were one besides READY at 0.");
        LinkTimes x = Edges.desk();
        reasons(x, D, A, 0, 4);
        reasons(x, D, A, 1999, 4);
        reasons(x, A, E, 51, 4);
        // b-c at 5 comes ahead of a-b at 10: by no means.
        LinkTimes y = Bench.with("desk span 50;spot a change 0;spot b change 0;spot c change 0;line r;"
                + "link r a b from 5 till 5 every 1 takes 5;link r b c from 9 till 9 every 1 takes 1");
        reasons(y, 0, 2, 0, 4);
        y.extra(0, 1, 2, 10, 1);
        reasons(y, 0, 2, 0, 0);
        reasons(y, 0, 2, 6, 3);
        // READY at 0 one has the first one of all, READY at 1 not.
        LinkTimes first = Bench.with("desk span 50;spot a change 0;spot b change 0;line r;"
                + "link r a b from 0 till 0 every 1 takes 5");
        reasons(first, 0, 1, 0, 0);
        reasons(first, 0, 1, 1, 3);
        reasons(first, 1, 0, 0, 4);
    }

    private static void promise36Behind() {
        Edges.of(36, "0 behind the last one.");
        LinkTimes x = Edges.desk();
        Bench.good(x, "why(a, c, 0, 0): there is a WAY", x.why(A, C, 0, 0), 0);
        Bench.good(x, "why(e, e, 0, 0)", x.why(E, E, 0, 0), 0);
        Bench.good(x, "why(e, e, 1999, 3)", x.why(E, E, 1999, 3), 0);
        Bench.good(x, "why(a, e, 0, 3)", x.why(A, E, 0, 3), 4);
        Bench.good(x, "why(a, e, 0, 4)", x.why(A, E, 0, 4), 0);
        Bench.good(x, "why(a, e, 0, MAX)", x.why(A, E, 0, Integer.MAX_VALUE), 0);
        Bench.good(x, "about(5): all stays as it is", x.about(5), Edges.DEPARTURES);
        Bench.good(x, "spot(b, 1): all stays as it is", x.spot(B, 1), 20);
    }

    private static void promise36Refused() {
        Edges.of(36, "NONE: 1; 2 (t; i below 0).");
        LinkTimes x = Edges.desk();
        Edges.spots(x, "why(s, a, 0, 0)", s -> x.why(s, A, 0, 0));
        Edges.spots(x, "why(a, s, 0, 0)", s -> x.why(A, s, 0, 0));
        Edges.times(x, "why(a, b, t, 0)", t -> x.why(A, B, t, 0));
        Bench.refused(x, "why(a, b, 0, -1)", x.why(A, B, 0, -1), 2);
        Bench.refused(x, "why(a, e, 0, -1)", x.why(A, E, 0, -1), 2);
        Bench.refused(x, "why(a, b, 0, MIN)", x.why(A, B, 0, Integer.MIN_VALUE), 2);
        Bench.refused(x, "why(5, a, 0, -1)", x.why(5, A, 0, -1), 1);
    }
}
