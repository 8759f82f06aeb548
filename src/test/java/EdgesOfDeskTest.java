import java.io.IOException;

/** Promises 1 to 9, sentence by sentence: a new object, the tape, the desk and what is told of it. */
public final class EdgesOfDeskTest {
    private static final int FEEDS = 45;
    private static final String SMALL = "desk span 7;spot a change 1 wait 9";

    public static void main(String[] args) throws IOException {
        promise1();
        promise2Bytes();
        promise2Room();
        promise3FirstBytes();
        promise3TapeEmpty();
        promise3NothingToUndo();
        promise3HowMany();
        promise3Number();
        promise3Fault();
        promise4();
        promise4Without();
        promise5();
        promise5Else();
        promise6();
        promise6Refused();
        promise7();
        promise7Refused();
        promise8();
        promise8Besides();
        promise8Refused();
        promise9();
        promise9LikeOnes();
        promise9Refused();
        Edges.end("EdgesOfDeskTest", 1, 9);
    }

    private static void promise1() {
        Edges.of(1, "No DESK.");
        LinkTimes x = new LinkTimes();
        Bench.due("trouble() at first", x.trouble(), 0);
        Bench.due("fault() at first", x.fault(), 0);
        Bench.due("where() at first", x.where(), -1);
        Bench.due("size(0) at first", x.size(0), 0);
        Bench.due("size(1) at first", x.size(1), 0);
        Bench.due("size(2) at first", x.size(2), 0);
        for (int what = 0; what <= 5; what++) {
            Bench.refused(x, "about(" + what + ")", x.about(what), 1);
        }
        Bench.due("still(0)", Bench.still(x, 0), -9);
        // One object has nothing of another one.
        LinkTimes other = Edges.desk();
        Bench.due("about(1) of another one", other.about(1), Edges.SPOTS);
        Bench.refused(x, "about(1) still", x.about(1), 1);
    }

    private static void promise2Bytes() {
        Edges.of(2, "Twenty bytes come behind THE TAPE, of each number the highest first: how many it has;");
        LinkTimes x = new LinkTimes();
        Bench.due("feed()", x.feed(0x6465736b, 0x20737061, 0x6e20373b, 0x73706f74, 0x20612063), 20);
        Bench.due("feed() behind it", x.feed(0x68616e67, 0x65203120, 0x77616974, 0x20390000, 0xffffffff), 40);
        Bench.good(x, "desk(34)", x.desk(SMALL.length()), 0);
        Bench.due("about(0)", x.about(0), 7);
        Bench.due("spot(0, 1)", x.spot(0, 1), 9);
        // Numbers below 0 have their bytes, too: 255 begins no token, 0x80000000 is 128, 0, 0, 0.
        Bench.due("feed() of -1", x.feed(-1, -1, -1, -1, -1), 20);
        Bench.refused(x, "desk(20) of -1", x.desk(20), 4);
        Bench.due("where()", x.where(), 0);
        x.feed(0x20202020, 0x20202020, 0x20202020, 0x20202020, Integer.MIN_VALUE);
        Bench.refused(x, "desk(20)", x.desk(20), 4);
        Bench.due("where() of 128", x.where(), 16);
        x.feed(0x20202020, 0x20202020, 0x20202020, 0x20202020, 0x2020207f);
        Bench.refused(x, "desk(20)", x.desk(20), 4);
        Bench.due("where() of the last byte", x.where(), 19);
    }

    private static void promise2Room() {
        Edges.of(2, "NONE, and none comes, if there would be more than 900.");
        LinkTimes x = new LinkTimes();
        Bench.put(x, SMALL);
        for (int k = 3; k <= FEEDS; k++) {
            Bench.due("feed " + k, x.feed(0x20202020, 0x20202020, 0x20202020, 0x20202020, 0x20202020), 20 * k);
        }
        for (int k = 0; k < 3; k++) {
            Bench.due("feed beyond 900", x.feed(0, 0, 0, 0, 0), LinkTimes.NONE);
            Bench.due("size(0)", x.size(0), 900);
        }
        Bench.due("trouble(): no number is told of it", x.trouble(), 0);
        Bench.good(x, "desk(900): what came ahead of it is there", x.desk(900), 0);
        Bench.due("feed() when there is room again", x.feed(0, 0, 0, 0, 0), 20);
    }

    private static void promise3FirstBytes() {
        Edges.of(3, "The first n bytes of THE TAPE");
        LinkTimes x = new LinkTimes();
        Bench.put(x, SMALL + ";spot b#");
        Bench.good(x, "desk() of what is ahead of a fault", x.desk(SMALL.length()), 0);
        Bench.due("about(1)", x.about(1), 1);
        Bench.put(x, SMALL + "9");
        x.desk(SMALL.length());
        Bench.due("spot(0, 1): a byte beyond it doesn't count", x.spot(0, 1), 9);
        Bench.put(x, SMALL + "9");
        x.desk(SMALL.length() + 1);
        Bench.due("spot(0, 1): with that byte", x.spot(0, 1), 99);
        // What a longer text has left behind a shorter one isn't on the tape.
        Bench.put(x, Edges.DESK);
        x.desk(0);
        Bench.put(x, SMALL);
        Bench.refused(x, "desk(41)", x.desk(41), 2);
    }

    private static void promise3TapeEmpty() {
        Edges.of(3, "(it is empty then)");
        LinkTimes x = new LinkTimes();
        Bench.put(x, SMALL + ";line r;line s;line t");
        x.desk(SMALL.length());
        Bench.due("size(0) behind a good text", x.size(0), 0);
        Bench.put(x, "desk");
        x.desk(4);
        Bench.due("size(0) behind a fault", x.size(0), 0);
        Bench.put(x, "desk");
        x.desk(0);
        Bench.due("size(0) behind no bytes", x.size(0), 0);
    }

    private static void promise3NothingToUndo() {
        Edges.of(3, "are the DESK from now on (nothing to undo):");
        LinkTimes x = Edges.desk();
        x.delay(0, 5);
        x.cancel(1);
        x.extra(0, Edges.D, Edges.A, 0, 1);
        x.change(0, 77);
        x.hold(0, 77);
        Bench.good(x, "desk() of the same text", Bench.tell(x, Edges.DESK), Edges.DEPARTURES);
        Bench.due("size(1)", x.size(1), 0);
        Bench.due("size(2)", x.size(2), 0);
        Bench.due("undo()", x.undo(), false);
        Bench.due("about(4)", x.about(4), Edges.DEPARTURES);
        Bench.due("about(5)", x.about(5), Edges.DEPARTURES);
        Bench.due("spot(0, 0)", x.spot(0, 0), 5);
        Bench.due("spot(0, 1)", x.spot(0, 1), -2);
        Bench.good(x, "desk() of another text", Bench.tell(x, SMALL), 0);
        Bench.due("about(1)", x.about(1), 1);
        Bench.refused(x, "departure(0, 0)", x.departure(0, 0), 1);
        Bench.refused(x, "spot(1, 0)", x.spot(1, 0), 1);
        // Nothing of an earlier one comes back with a later one.
        for (int k = 0; k < 3; k++) {
            Bench.good(x, "desk() of the first text", Bench.tell(x, Edges.DESK), Edges.DEPARTURES);
            Bench.due("about(2)", x.about(2), 2);
            Bench.due("about(3)", x.about(3), 4);
            Bench.due("about(5)", x.about(5), Edges.DEPARTURES);
            Bench.due("size(2)", x.size(2), 0);
            Bench.due("arrives(a, d, 0)", x.arrives(Edges.A, Edges.D, 0), 100);
            for (int d = 0; d < Edges.DEPARTURES; d++) {
                x.delay(d, 99);
                x.cancel(d);
            }
        }
        Bench.good(x, "desk() of one line less", Bench.tell(x, SMALL + ";line r"), 0);
        Bench.due("about(2) of one line", x.about(2), 1);
        Bench.due("about(3) of no link", x.about(3), 0);
        Bench.due("size(2) of no departure", x.size(2), 0);
    }

    private static void promise3HowMany() {
        Edges.of(3, "how many DEPARTURES.");
        Edges.fine(SMALL, 0);
        Edges.fine(Edges.DESK, 8);
        Edges.fine("desk span 119;spot a change 0;spot b change 0;line r;link r a b from 0 till 119 every 1 takes 1", 120);
    }

    private static void promise3Number() {
        Edges.of(3, "NONE: 2 (n; THE TAPE stays);");
        LinkTimes x = new LinkTimes();
        Bench.refused(x, "desk(1) of an empty tape", x.desk(1), 2);
        Bench.put(x, SMALL);
        Edges.refuses(x, "desk()", 2, x::desk, -1, 41, 900, 901);
        Bench.due("size(0)", x.size(0), 40);
        Bench.due("fault()", x.fault(), 0);
        Bench.good(x, "desk(40): all bytes", x.desk(40), 0);
        Bench.refused(x, "desk(1) of an empty tape", x.desk(1), 2);
        Bench.refused(x, "desk(0): a number that it has, no text", x.desk(0), 4);
    }

    private static void promise3Fault() {
        Edges.of(3, "4 (the DESK stays, as it is).");
        LinkTimes x = Edges.desk();
        x.delay(0, 5);
        x.cancel(1);
        x.extra(0, Edges.D, Edges.A, 0, 1);
        // A text that is good but for its last byte, with other spots, lines and departures.
        String other = "desk span 9;spot q change 9 wait 9;spot p change 9;line u;line v;line w;"
                + "link u q p from 0 till 9 every 1 takes 9;";
        Bench.refused(x, "desk() of a faulty text", Bench.tell(x, other), 4);
        int[] about = {100, 5, 2, 4, 9, 8};
        for (int what = 0; what <= 5; what++) {
            Bench.due("about(" + what + ")", x.about(what), about[what]);
        }
        Bench.due("departure(0, 3)", x.departure(0, 3), 15);
        Bench.due("departure(1, 6)", x.departure(1, 6), 0);
        Bench.due("departure(8, 7)", x.departure(8, 7), -2);
        Bench.due("spot(1, 1)", x.spot(1, 1), 20);
        Bench.due("arrives(b, c, 0)", x.arrives(Edges.B, Edges.C, 0), 30);
        Bench.due("size(1): what can be undone stays, too", x.size(1), 3);
        x.undo();
        Bench.due("about(4) behind undo()", x.about(4), 8);
    }

    private static void promise4() {
        Edges.of(4, "The FAULT of the latest desk() not refused by 2;");
        LinkTimes x = new LinkTimes();
        String[] texts = {"desk", "desk span 9;link r", "desk span 9;desk", "desk span 0", "", "line"};
        int[] faults = {1, 2, 3, 4, 1, 6};
        for (int k = 0; k < texts.length; k++) {
            Bench.tell(x, texts[k]);
            Bench.due("fault()", x.fault(), faults[k]);
            x.desk(-1);
            x.desk(1);
            Bench.due("fault() behind a desk() refused by 2", x.fault(), faults[k]);
            x.about(0);
            Bench.due("fault() behind another call", x.fault(), faults[k]);
        }
        Bench.tell(x, "desk span 999;spot a change 0;spot b change 0;line r;link r a b from 0 till 999 every 1 takes 1");
        Bench.due("fault()", x.fault(), 5);
    }

    private static void promise4Without() {
        Edges.of(4, "0 without one.");
        LinkTimes x = new LinkTimes();
        Bench.due("fault() at first", x.fault(), 0);
        x.desk(5);
        Bench.due("fault() behind a first desk() refused by 2", x.fault(), 0);
        Bench.tell(x, "desk");
        Bench.tell(x, SMALL);
        Bench.due("fault() behind a good text", x.fault(), 0);
        x.desk(5);
        Bench.due("fault() behind desk() refused by 2", x.fault(), 0);
    }

    private static void promise5() {
        Edges.of(5, "Its place, if the latest call that may be refused was by 4;");
        LinkTimes x = Edges.desk();
        Bench.tell(x, "desk span 60;spot a change 100");
        Bench.due("where()", x.where(), 27);
        x.where();
        x.fault();
        x.trouble();
        x.size(0);
        x.feed(0, 0, 0, 0, 0);
        Bench.still(x, 9);
        Bench.due("where() behind calls that can't be refused", x.where(), 27);
        x.desk(0);
        Bench.due("where() at the beginning", x.where(), 0);
        for (int k = 0; k < 45; k++) {
            x.feed(0x20202020, 0x20202020, 0x20202020, 0x20202020, 0x20202020);
        }
        x.desk(900);
        Bench.due("where() at the end of a full tape", x.where(), 900);
    }

    private static void promise5Else() {
        Edges.of(5, "NONE else.");
        LinkTimes x = new LinkTimes();
        Bench.due("where() at first", x.where(), -1);
        Bench.tell(x, "desk");
        x.desk(9);
        Bench.due("where() behind desk() refused by 2", x.where(), -1);
        Bench.tell(x, "desk");
        x.about(0);
        Bench.due("where() behind a call refused by 1", x.where(), -1);
        Bench.tell(x, "desk");
        x.undo();
        Bench.due("where() behind undo() refused", x.where(), -1);
        Bench.tell(x, Edges.DESK);
        Bench.due("where() behind a good text", x.where(), -1);
        Bench.tell(x, "desk");
        x.about(0);
        Bench.due("where() behind a call that wasn't refused", x.where(), -1);
        Bench.tell(x, "desk");
        x.run(0);
        Bench.due("where() behind a call refused by 5", x.where(), -1);
    }

    private static void promise6() {
        Edges.of(6, "0 SPAN, 1 SPOTS, 2 LINES, 3 links told, 4 DEPARTURES, 5 DEPARTURES that RUN.");
        LinkTimes x = Bench.with("desk span 1;spot a change 0");
        int[] least = {1, 1, 0, 0, 0, 0};
        for (int what = 0; what <= 5; what++) {
            Bench.good(x, "about(" + what + ") of the least desk", x.about(what), least[what]);
        }
        LinkTimes y = Edges.desk();
        y.cancel(0);
        y.extra(0, Edges.D, Edges.A, 0, 1);
        y.extra(0, Edges.D, Edges.A, 0, 1);
        y.cancel(9);
        int[] told = {100, 5, 2, 4, 10, 8};
        for (int what = 0; what <= 5; what++) {
            Bench.good(y, "about(" + what + ")", y.about(what), told[what]);
        }
        for (int d = 1; d < 9; d++) {
            y.cancel(d);
        }
        Bench.good(y, "about(5) when none RUNS", y.about(5), 0);
        Bench.good(y, "about(4) when none RUNS", y.about(4), 10);
    }

    private static void promise6Refused() {
        Edges.of(6, "NONE: 1 (what, too).");
        LinkTimes x = Edges.desk();
        Edges.range(x, "about()", 1, 0, 5, x::about);
        LinkTimes none = new LinkTimes();
        Edges.refuses(none, "about() without a desk", 1, none::about, 0, 5, 6);
    }

    private static void promise7() {
        Edges.of(7, "Of a SPOT 0 CHANGE, 1 WAIT (-2 any), 2 DEPARTURES that RUN and LEAVE it, 3 those that ARRIVE there.");
        LinkTimes x = Edges.desk();
        int[][] told = {{5, -2, 3, 0}, {5, 20, 4, 3}, {0, -2, 1, 4}, {0, 0, 0, 1}, {9, -2, 0, 0}};
        for (int s = 0; s < Edges.SPOTS; s++) {
            for (int what = 0; what <= 3; what++) {
                Bench.good(x, "spot(" + s + ", " + what + ")", x.spot(s, what), told[s][what]);
            }
        }
        x.cancel(3);
        Bench.good(x, "spot(b, 2) with one cancelled", x.spot(Edges.B, 2), 3);
        Bench.good(x, "spot(c, 3) with one cancelled: those that RUN", x.spot(Edges.C, 3), 3);
        x.extra(0, Edges.E, Edges.C, 0, 1);
        Bench.good(x, "spot(e, 2) with one besides", x.spot(Edges.E, 2), 1);
        Bench.good(x, "spot(c, 3) with one besides", x.spot(Edges.C, 3), 4);
        x.hold(Edges.D, 999);
        Bench.good(x, "spot(d, 1) of 999", x.spot(Edges.D, 1), 999);
        x.hold(Edges.D, -1);
        Bench.good(x, "spot(d, 1) of any", x.spot(Edges.D, 1), -2);
        x.change(Edges.D, 99);
        Bench.good(x, "spot(d, 0) of 99", x.spot(Edges.D, 0), 99);
    }

    private static void promise7Refused() {
        Edges.of(7, "NONE: 1 (no such SPOT, what).");
        LinkTimes x = Edges.desk();
        for (int what = 0; what <= 3; what++) {
            int asked = what;
            Edges.spots(x, "spot(s, " + what + ")", s -> x.spot(s, asked));
        }
        Edges.range(x, "spot(0, what)", 1, 0, 3, what -> x.spot(0, what));
        Edges.range(x, "spot(4, what)", 1, 0, 3, what -> x.spot(4, what));
    }

    private static void promise8() {
        Edges.of(8, "Of a DEPARTURE 0 its LINE, 1 from, 2 to which SPOT, 3 LEAVES, 4 ARRIVES, 5 DELAY, "
                + "6 1 if it RUNS, 0, 7 its link");
        LinkTimes x = Edges.desk();
        int[][] told = {{0, 0, 1, 10, 20, 0, 1, 0}, {1, 1, 2, 45, 50, 0, 1, 1}, {1, 2, 3, 70, 100, 0, 1, 3}};
        int[] which = {0, 4, 7};
        for (int k = 0; k < which.length; k++) {
            for (int what = 0; what <= 7; what++) {
                Bench.good(x, "departure(" + which[k] + ", " + what + ")", x.departure(which[k], what), told[k][what]);
            }
        }
        x.delay(7, 99);
        x.cancel(7);
        int[] late = {1, 2, 3, 169, 199, 99, 0, 3};
        for (int what = 0; what <= 7; what++) {
            Bench.good(x, "departure(7, " + what + ") late and cancelled", x.departure(7, what), late[what]);
        }
    }

    private static void promise8Besides() {
        Edges.of(8, "(-2 it came besides).");
        LinkTimes x = Edges.desk();
        x.extra(1, Edges.E, Edges.D, 100, 99);
        int[] told = {1, 4, 3, 100, 199, 0, 1, -2};
        for (int what = 0; what <= 7; what++) {
            Bench.good(x, "departure(8, " + what + ")", x.departure(8, what), told[what]);
        }
        // -2 is its answer, no refusal.
        Bench.good(x, "departure(8, 7)", x.departure(8, 7), -2);
    }

    private static void promise8Refused() {
        Edges.of(8, "NONE: 1 (no such DEPARTURE, what).");
        LinkTimes x = Edges.desk();
        for (int what = 0; what <= 7; what++) {
            int asked = what;
            Edges.departures(x, "departure(d, " + what + ")", d -> x.departure(d, asked));
        }
        Edges.range(x, "departure(0, what)", 1, 0, 7, what -> x.departure(0, what));
        x.extra(0, 0, 1, 0, 1);
        Bench.good(x, "departure(8, 0)", x.departure(8, 0), 0);
        x.undo();
        Bench.refused(x, "departure(8, 0) undone", x.departure(8, 0), 1);
        LinkTimes empty = Bench.with(SMALL);
        Bench.refused(empty, "departure(0, 0) without departures", empty.departure(0, 0), 1);
    }

    private static void ordered(LinkTimes x, int... row) {
        for (int k = 0; k < row.length; k++) {
            Bench.good(x, "ordered(" + k + ")", x.ordered(k), row[k]);
        }
        Bench.refused(x, "ordered(" + row.length + ")", x.ordered(row.length), 1);
    }

    private static void promise9() {
        Edges.of(9, "The k-th DEPARTURE of those that RUN, by LEAVES,");
        LinkTimes x = Edges.desk();
        ordered(x, 0, 3, 1, 4, 2, 6, 5, 7);
        x.cancel(0);
        x.cancel(7);
        ordered(x, 3, 1, 4, 2, 6, 5);
        x.delay(3, 99);
        ordered(x, 1, 4, 2, 6, 5, 3);
        x.extra(0, Edges.D, Edges.A, 0, 1);
        ordered(x, 8, 1, 4, 2, 6, 5, 3);
        x.run(0);
        ordered(x, 8, 0, 1, 4, 2, 6, 5, 3);
        x.undo();
        x.undo();
        ordered(x, 1, 4, 2, 6, 5, 3);
    }

    private static void promise9LikeOnes() {
        Edges.of(9, "of like ones by numbers.");
        LinkTimes x = Edges.desk();
        x.delay(0, 15);
        ordered(x, 0, 3, 1, 4, 2, 6, 5, 7);
        x.delay(3, 5);
        x.delay(0, 20);
        x.delay(1, 0);
        ordered(x, 0, 1, 3, 4, 2, 6, 5, 7);
        x.extra(0, Edges.D, Edges.A, 30, 1);
        ordered(x, 0, 1, 3, 8, 4, 2, 6, 5, 7);
    }

    private static void promise9Refused() {
        Edges.of(9, "NONE: 1.");
        LinkTimes x = Edges.desk();
        Edges.range(x, "ordered()", 1, 0, Edges.DEPARTURES - 1, x::ordered);
        for (int d = 0; d < Edges.DEPARTURES; d++) {
            x.cancel(d);
        }
        Edges.refuses(x, "ordered() when none RUNS", 1, x::ordered, -1, 0, 1, 7, 8);
        LinkTimes none = new LinkTimes();
        Edges.refuses(none, "ordered() without a desk", 1, none::ordered, -1, 0, 1);
    }
}
