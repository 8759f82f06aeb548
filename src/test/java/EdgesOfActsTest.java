import java.io.IOException;

/** Promises 37 to 46, sentence by sentence: acts, how they are undone, and what is told. */
public final class EdgesOfActsTest {
    private static final int A = Edges.A;
    private static final int B = Edges.B;
    private static final int C = Edges.C;
    private static final int D = Edges.D;
    private static final int E = Edges.E;
    private static final int R = 0;
    private static final int G = 1;
    private static final int NOTHING_SUCH = -9;

    public static void main(String[] args) throws IOException {
        promise37();
        promise37None();
        promise37Twice();
        promise38();
        promise38None();
        promise38Twice();
        promise39();
        promise39TheSame();
        promise39Refused();
        promise40();
        promise40Refused();
        promise41();
        promise41Any();
        promise41Refused();
        promise42();
        promise42NoneSuch();
        promise42Numbers();
        promise42Full();
        promise43();
        promise43OneAlone();
        promise43Nothing();
        promise44();
        promise44None();
        promise45();
        promise45Others();
        promise45Without();
        promise46();
        Edges.end("EdgesOfActsTest", 37, 46);
    }

    private static void promise37() {
        Edges.of(37, "A DEPARTURE is cancelled: how many RUN then.");
        LinkTimes x = Edges.desk();
        for (int d = 0; d < Edges.DEPARTURES; d++) {
            Bench.good(x, "cancel(" + d + ")", x.cancel(d), Edges.DEPARTURES - 1 - d);
            Bench.due("departure(" + d + ", 6)", x.departure(d, 6), 0);
        }
        Bench.due("pairs(0) when none RUNS", x.pairs(0), 0);
        x.extra(R, A, B, 0, 1);
        Bench.good(x, "cancel(8): one that came besides", x.cancel(8), 0);
    }

    private static void promise37None() {
        Edges.of(37, "NONE: 1;");
        LinkTimes x = Edges.desk();
        Edges.departures(x, "cancel()", x::cancel);
        Bench.due("about(5): the first and the last one are cancelled", x.about(5), Edges.DEPARTURES - 2);
        LinkTimes empty = Bench.with("desk span 9;spot a change 0;line r");
        Bench.refused(empty, "cancel(0) without departures", empty.cancel(0), 1);
    }

    private static void promise37Twice() {
        Edges.of(37, "5 (it is so).");
        LinkTimes x = Edges.desk();
        x.cancel(0);
        Bench.refused(x, "cancel(0) again", x.cancel(0), 5);
        Bench.due("size(1): no act", x.size(1), 1);
        x.undo();
        Bench.good(x, "cancel(0) behind undo()", x.cancel(0), 7);
        x.run(0);
        Bench.good(x, "cancel(0) behind run()", x.cancel(0), 7);
    }

    private static void promise38() {
        Edges.of(38, "It RUNS again: how many RUN then.");
        LinkTimes x = Edges.desk();
        x.cancel(0);
        x.cancel(7);
        Bench.good(x, "run(7)", x.run(7), 7);
        Bench.good(x, "run(0)", x.run(0), 8);
        Bench.due("departure(0, 6)", x.departure(0, 6), 1);
        Bench.due("arrives(a, c, 0)", x.arrives(A, C, 0), 30);
        x.delay(0, 5);
        x.cancel(0);
        x.run(0);
        Bench.due("departure(0, 5): with the DELAY that it has", x.departure(0, 5), 5);
    }

    private static void promise38None() {
        Edges.of(38, "NONE: 1;");
        LinkTimes x = Edges.desk();
        for (int d = 0; d < Edges.DEPARTURES; d++) {
            x.cancel(d);
        }
        Edges.departures(x, "run()", x::run);
        Bench.due("about(5): the first and the last one RUN", x.about(5), 2);
    }

    private static void promise38Twice() {
        Edges.of(38, "5 (it does).");
        LinkTimes x = Edges.desk();
        Bench.refused(x, "run(0) at first", x.run(0), 5);
        x.cancel(0);
        x.run(0);
        Bench.refused(x, "run(0) again", x.run(0), 5);
        Bench.due("size(1): no act", x.size(1), 2);
        x.extra(R, A, B, 0, 1);
        Bench.refused(x, "run(8): one that came besides", x.run(8), 5);
    }

    private static void promise39() {
        Edges.of(39, "Its DELAY (0 .. 99;");
        LinkTimes x = Edges.desk();
        int was = 0;
        for (int v : new int[] {1, 99, 0, 50, 99, 1}) {
            Bench.good(x, "delay(0, " + v + ")", x.delay(0, v), was);
            Bench.due("departure(0, 5)", x.departure(0, 5), v);
            Bench.due("departure(0, 3): it LEAVES so much later than told, not than it did", x.departure(0, 3), 10 + v);
            was = v;
        }
        x.cancel(0);
        Bench.good(x, "delay(0, 2) of a cancelled one", x.delay(0, 2), 1);
    }

    private static void promise39TheSame() {
        Edges.of(39, "the same, too): what it was.");
        LinkTimes x = Edges.desk();
        Bench.good(x, "delay(0, 0)", x.delay(0, 0), 0);
        Bench.good(x, "delay(0, 99)", x.delay(0, 99), 0);
        Bench.good(x, "delay(0, 99) again", x.delay(0, 99), 99);
        Bench.due("size(1): each is an act", x.size(1), 3);
        x.undo();
        Bench.due("departure(0, 5)", x.departure(0, 5), 99);
    }

    private static void promise39Refused() {
        Edges.of(39, "NONE: 1; 2.");
        LinkTimes x = Edges.desk();
        Edges.departures(x, "delay(d, 1)", d -> x.delay(d, 1));
        Edges.range(x, "delay(0, v)", 2, 0, 99, v -> x.delay(0, v));
        Bench.due("departure(0, 5) stays", x.departure(0, 5), 99);
        Bench.refused(x, "delay(8, 100)", x.delay(8, 100), 1);
    }

    private static void promise40() {
        Edges.of(40, "CHANGE of a SPOT (0 .. 99): what it was.");
        LinkTimes x = Edges.desk();
        int was = 5;
        for (int v : new int[] {0, 99, 6, 6, 5}) {
            Bench.good(x, "change(b, " + v + ")", x.change(B, v), was);
            Bench.due("spot(b, 0)", x.spot(B, 0), v);
            Bench.due("arrives(a, c, 0)", x.arrives(A, C, 0), v <= 5 ? 30 : 100);
            was = v;
        }
        Bench.due("spot(a, 0): another one's stays", x.spot(A, 0), 5);
    }

    private static void promise40Refused() {
        Edges.of(40, "NONE: 1; 2.");
        LinkTimes x = Edges.desk();
        Edges.spots(x, "change(s, 1)", s -> x.change(s, 1));
        Edges.range(x, "change(b, v)", 2, 0, 99, v -> x.change(B, v));
        Bench.due("spot(b, 0) stays", x.spot(B, 0), 99);
        Bench.refused(x, "change(5, 100)", x.change(5, 100), 1);
    }

    private static void promise41() {
        Edges.of(41, "WAIT of a SPOT (0 .. 999;");
        LinkTimes x = Edges.desk();
        x.cancel(5);
        int was = 20;
        for (int v : new int[] {0, 999, 19, 20, 20}) {
            Bench.good(x, "hold(b, " + v + ")", x.hold(B, v), was);
            Bench.due("spot(b, 1)", x.spot(B, 1), v);
            // From 1 to 6 one waits 20; from 2 to 6 not at all.
            Bench.due("trade(a, c, 30, 0, 2)", x.trade(A, C, 30, 0, 2), 50);
            was = v;
        }
        x.cancel(2);
        Bench.due("within(a, c, 30, 0) with WAIT 20", x.within(A, C, 30, 0), 100);
        x.hold(B, 19);
        Bench.due("within(a, c, 30, 0) with WAIT 19", x.within(A, C, 30, 0), -2);
    }

    private static void promise41Any() {
        Edges.of(41, "-1: any): what it was (-2 any).");
        LinkTimes x = Edges.desk();
        Bench.good(x, "hold(b, -1)", x.hold(B, -1), 20);
        Bench.good(x, "spot(b, 1)", x.spot(B, 1), -2);
        Bench.good(x, "hold(b, -1) again", x.hold(B, -1), -2);
        Bench.good(x, "hold(b, 0)", x.hold(B, 0), -2);
        Bench.good(x, "hold(a, 0): told without WAIT", x.hold(A, 0), -2);
        Bench.good(x, "hold(d, -1): told with WAIT 0", x.hold(D, -1), 0);
        x.undo();
        x.undo();
        x.undo();
        Bench.due("spot(b, 1): any again", x.spot(B, 1), -2);
    }

    private static void promise41Refused() {
        Edges.of(41, "NONE: 1; 2.");
        LinkTimes x = Edges.desk();
        Edges.spots(x, "hold(s, 1)", s -> x.hold(s, 1));
        Edges.range(x, "hold(b, v)", 2, -1, 999, v -> x.hold(B, v));
        Bench.due("spot(b, 1) stays", x.spot(B, 1), 999);
        Bench.refused(x, "hold(5, -2)", x.hold(5, -2), 1);
    }

    private static void promise42() {
        Edges.of(42, "A DEPARTURE more of a LINE from a to b, LEAVING at a TIME (0 .. SPAN), "
                + "that TAKES 1 .. 99: its number.");
        LinkTimes x = Edges.desk();
        Bench.good(x, "extra(r, d, a, 0, 1)", x.extra(R, D, A, 0, 1), 8);
        Bench.good(x, "extra(g, d, e, 100, 99)", x.extra(G, D, E, 100, 99), 9);
        int[][] told = {{0, 3, 0, 0, 1, 0, 1, -2}, {1, 3, 4, 100, 199, 0, 1, -2}};
        for (int k = 0; k < 2; k++) {
            for (int what = 0; what <= 7; what++) {
                Bench.good(x, "departure(" + (8 + k) + ", " + what + ")", x.departure(8 + k, what), told[k][what]);
            }
        }
        Bench.due("arrives(d, a, 0)", x.arrives(D, A, 0), 1);
        Bench.due("arrives(a, e, 0): from 7 at once, of its LINE", x.arrives(A, E, 0), 199);
        Bench.due("about(3): it is of no link", x.about(3), 4);
        Bench.good(x, "extra() like another one", x.extra(G, D, E, 100, 99), 10);
    }

    private static void promise42NoneSuch() {
        Edges.of(42, "NONE: 1 (LINE; unlike SPOTS);");
        LinkTimes x = Edges.desk();
        Edges.range(x, "extra(line, a, b, 0, 1)", 1, 0, 1, line -> x.extra(line, A, B, 0, 1));
        Edges.unlike(x, "extra", s -> x.extra(R, s, B, 0, 1), s -> x.extra(R, A, s, 0, 1), s -> x.extra(R, s, s, 0, 1));
        Bench.due("about(4): two came", x.about(4), Edges.DEPARTURES + 2);
        LinkTimes none = Bench.with("desk span 9;spot a change 0;spot b change 0");
        Bench.refused(none, "extra(0, a, b, 0, 1) without lines", none.extra(0, 0, 1, 0, 1), 1);
        LinkTimes one = Bench.with("desk span 9;spot a change 0;line r");
        Bench.refused(one, "extra(0, a, 1, 0, 1) of one spot", one.extra(0, 0, 1, 0, 1), 1);
    }

    private static void promise42Numbers() {
        Edges.of(42, "2;");
        LinkTimes x = Edges.desk();
        Edges.range(x, "extra(r, a, b, leaves, 1)", 2, 0, 100, leaves -> x.extra(R, A, B, leaves, 1));
        Edges.range(x, "extra(r, a, b, 0, takes)", 2, 1, 99, takes -> x.extra(R, A, B, 0, takes));
        Bench.due("about(4): four came", x.about(4), Edges.DEPARTURES + 4);
        LinkTimes least = Bench.with("desk span 1;spot a change 0;spot b change 0;line r");
        Edges.range(least, "extra(r, a, b, leaves, 1) of SPAN 1", 2, 0, 1, leaves -> least.extra(R, 0, 1, leaves, 1));
        LinkTimes most = Bench.with("desk span 999;spot a change 0;spot b change 0;line r");
        Edges.range(most, "extra(r, a, b, leaves, 1) of SPAN 999", 2, 0, 999, leaves -> most.extra(R, 0, 1, leaves, 1));
    }

    private static void promise42Full() {
        Edges.of(42, "3 (there are 120).");
        LinkTimes x = Edges.desk();
        for (int d = Edges.DEPARTURES; d < 120; d++) {
            Bench.good(x, "extra() for " + d, x.extra(R, A, B, 0, 1), d);
        }
        Bench.refused(x, "extra() for the 121st", x.extra(R, A, B, 0, 1), 3);
        Bench.due("about(4)", x.about(4), 120);
        Bench.due("size(1): no act", x.size(1), 10);
        x.cancel(119);
        Bench.refused(x, "extra(): a cancelled one is there, too", x.extra(R, A, B, 0, 1), 3);
        x.undo();
        x.undo();
        Bench.good(x, "extra() behind undo()", x.extra(R, A, B, 0, 1), 119);
        LinkTimes told = Bench.with("desk span 999;spot a change 0;spot b change 0;line r;"
                + "link r a b from 0 till 119 every 1 takes 1");
        Bench.refused(told, "extra() behind 120 told", told.extra(R, 0, 1, 0, 1), 3);
    }

    private static void promise43() {
        Edges.of(43, "UNDO: true;");
        LinkTimes x = Edges.desk();
        x.cancel(7);
        x.run(7);
        x.delay(0, 99);
        x.change(B, 99);
        x.hold(B, 999);
        x.hold(B, -1);
        x.extra(R, E, A, 0, 1);
        int[] kept = {6, 5, 4, 3, 2, 1, 0};
        int[][] due = {{8, 8, 99, 99, -2}, {8, 8, 99, 99, 999}, {8, 8, 99, 99, 20}, {8, 8, 99, 5, 20}, {8, 8, 0, 5, 20},
            {8, 7, 0, 5, 20}, {8, 8, 0, 5, 20}};
        for (int k = 0; k < kept.length; k++) {
            Bench.due("undo() " + k, x.undo(), true);
            Bench.due("trouble() behind undo() " + k, x.trouble(), 0);
            Bench.due("size(1) behind undo() " + k, x.size(1), kept[k]);
            int[] got = {x.about(4), x.about(5), x.departure(0, 5), x.spot(B, 0), x.spot(B, 1)};
            for (int i = 0; i < got.length; i++) {
                Bench.due("of undo() " + k + " answer " + i, got[i], due[k][i]);
            }
        }
    }

    private static void promise43OneAlone() {
        Edges.of(43, "UNDO:");
        // Each thing has the number 2 here: undoing one leaves the others of that number alone.
        LinkTimes x = Edges.desk();
        x.delay(2, 40);
        x.change(2, 41);
        x.hold(2, 42);
        x.cancel(2);
        x.run(2);
        x.run(2);
        Bench.due("trouble() ahead of it", x.trouble(), 5);
        int[][] due = {{40, 41, 42, 0}, {40, 41, 42, 1}, {40, 41, -2, 1}, {40, 0, -2, 1}, {0, 0, -2, 1}};
        for (int[] then : due) {
            x.run(7);
            Bench.due("undo()", x.undo(), true);
            Bench.due("trouble() behind undo()", x.trouble(), 0);
            Bench.due("departure(2, 5)", x.departure(2, 5), then[0]);
            Bench.due("spot(2, 0)", x.spot(2, 0), then[1]);
            Bench.due("spot(2, 1)", x.spot(2, 1), then[2]);
            Bench.due("departure(2, 6)", x.departure(2, 6), then[3]);
        }
    }

    private static void promise43Nothing() {
        Edges.of(43, "false: 1 (there is nothing).");
        LinkTimes x = new LinkTimes();
        nothing(x, "without a desk");
        Bench.tell(x, Edges.DESK);
        nothing(x, "behind a new desk");
        x.cancel(0);
        x.undo();
        nothing(x, "behind the last one undone");
        x.cancel(9);
        nothing(x, "behind a refused act");
        for (int k = 0; k < 25; k++) {
            x.delay(0, k);
        }
        for (int k = 0; k < 10; k++) {
            Bench.due("undo()", x.undo(), true);
        }
        nothing(x, "behind ten of 25");
        Bench.due("departure(0, 5)", x.departure(0, 5), 14);
    }

    private static void nothing(LinkTimes x, String when) {
        Bench.due("undo() " + when, x.undo(), false);
        Bench.due("trouble() behind undo() " + when, x.trouble(), 1);
        Bench.due("size(1) behind undo() " + when, x.size(1), 0);
    }

    private static void promise44() {
        Edges.of(44, "The i-th SPOT, by numbers, that no DEPARTURE that RUNS LEAVES, and at which none ARRIVES.");
        LinkTimes x = Edges.desk();
        Bench.due("still(0)", Bench.still(x, 0), E);
        x.cancel(7);
        Bench.due("still(0) without 7", Bench.still(x, 0), D);
        Bench.due("still(1) without 7", Bench.still(x, 1), E);
        x.extra(R, E, A, 0, 1);
        Bench.due("still(0): one LEAVES e", Bench.still(x, 0), D);
        Bench.due("still(1): one LEAVES e", Bench.still(x, 1), NOTHING_SUCH);
        x.undo();
        x.extra(R, A, E, 0, 1);
        Bench.due("still(1): one ARRIVES at e", Bench.still(x, 1), NOTHING_SUCH);
        for (int d = 0; d <= Edges.DEPARTURES; d++) {
            x.cancel(d);
        }
        for (int s = 0; s < Edges.SPOTS; s++) {
            Bench.due("still(" + s + ") when none RUNS", Bench.still(x, s), s);
        }
        Bench.due("still(5) when none RUNS", Bench.still(x, Edges.SPOTS), NOTHING_SUCH);
    }

    private static void promise44None() {
        Edges.of(44, "NoSuchElementException if there is none such.");
        LinkTimes none = new LinkTimes();
        LinkTimes x = Edges.desk();
        for (int i : new int[] {-1, 1, 5, Integer.MIN_VALUE, Integer.MAX_VALUE}) {
            Bench.due("still(" + i + ")", Bench.still(x, i), NOTHING_SUCH);
            Bench.due("still(" + i + ") without a desk", Bench.still(none, i), NOTHING_SUCH);
        }
        Bench.due("still(0) without a desk", Bench.still(none, 0), NOTHING_SUCH);
        x.extra(R, E, A, 0, 1);
        Bench.due("still(0) when all have one", Bench.still(x, 0), NOTHING_SUCH);
        Bench.due("about(4): all stays as it is", x.about(4), Edges.DEPARTURES + 1);
    }

    private static void promise45() {
        Edges.of(45, "0 bytes of THE TAPE, 1 what can be undone, 2 DEPARTURES with a DELAY.");
        LinkTimes x = Edges.desk();
        for (int k = 1; k <= 46; k++) {
            x.feed(0, 0, 0, 0, 0);
            Bench.due("size(0) behind feed " + k, x.size(0), Math.min(20 * k, 900));
        }
        for (int k = 1; k <= 11; k++) {
            x.change(A, k);
            Bench.due("size(1) behind act " + k, x.size(1), Math.min(k, 10));
        }
        for (int d = 0; d < Edges.DEPARTURES; d++) {
            x.delay(d, d + 1);
            Bench.due("size(2) behind delay() of " + d, x.size(2), d + 1);
        }
        x.delay(0, 99);
        Bench.due("size(2): another DELAY", x.size(2), 8);
        x.delay(0, 0);
        Bench.due("size(2): a DELAY of 0 is none", x.size(2), 7);
        x.undo();
        Bench.due("size(2) behind undo()", x.size(2), 8);
        x.cancel(1);
        Bench.due("size(2): a cancelled one has it still", x.size(2), 8);
        // What an earlier desk had doesn't count, wherever it stood.
        Bench.tell(x, "desk span 9;spot a change 0");
        Bench.tell(x, "desk span 9;spot a change 0;spot b change 0;line r;link r a b from 0 till 2 every 1 takes 1");
        Bench.due("size(2) of a smaller desk", x.size(2), 0);
    }

    private static void promise45Others() {
        Edges.of(45, "NONE for others;");
        LinkTimes x = Edges.desk();
        x.run(0);
        for (int what : new int[] {-1, 3, Integer.MIN_VALUE, Integer.MAX_VALUE}) {
            Bench.due("size(" + what + ")", x.size(what), LinkTimes.NONE);
            Bench.due("trouble(): no number is told of it", x.trouble(), 5);
        }
        Bench.due("size(3) without a desk", new LinkTimes().size(3), LinkTimes.NONE);
    }

    private static void promise45Without() {
        Edges.of(45, "0 for what there isn't.");
        LinkTimes x = new LinkTimes();
        for (int what = 0; what <= 2; what++) {
            Bench.due("size(" + what + ") without a desk", x.size(what), 0);
        }
        Bench.tell(x, "desk span 9;spot a change 0");
        for (int what = 0; what <= 2; what++) {
            Bench.due("size(" + what + ") without departures", x.size(what), 0);
        }
    }

    private static void promise46() {
        Edges.of(46, "TROUBLE.");
        LinkTimes x = new LinkTimes();
        Bench.due("trouble() at first", x.trouble(), 0);
        x.about(0);
        Bench.due("trouble() of about() without a desk", x.trouble(), 1);
        Bench.due("trouble() again", x.trouble(), 1);
        Bench.tell(x, Edges.DESK);
        Bench.due("trouble() of a good text", x.trouble(), 0);
        x.delay(0, -1);
        Bench.due("trouble() of a number", x.trouble(), 2);
        x.run(0);
        Bench.due("trouble() of run()", x.trouble(), 5);
        x.desk(0);
        Bench.due("trouble() of a fault", x.trouble(), 4);
        x.arrives(D, A, 0);
        Bench.due("trouble() without a WAY", x.trouble(), 0);
    }
}
