import java.io.IOException;

/** Promises 19 to 32, sentence by sentence: the other questions. */
public final class EdgesOfQuestionsTest {
    private static final int A = Edges.A;
    private static final int B = Edges.B;
    private static final int C = Edges.C;
    private static final int D = Edges.D;
    private static final int E = Edges.E;

    /** Departures 0 a-b 10..20, 1 b-a 20..25, 2 b-a 30..35; nobody could change or wait at b. */
    private static final String BACK = "desk span 999;spot a change 0;spot b change 99 wait 0;line r;line g;"
            + "link r a b from 10 till 10 every 1 takes 10;link g b a from 20 till 30 every 10 takes 5";
    private static final String MOST = "desk span 999;spot a change 0;spot b change 0;line r;"
            + "link r a b from 0 till 119 every 1 takes 1";
    /** One departure, as late and as long as can be: it leaves at 999, or at 1,098 with the most DELAY. */
    private static final String LAST = "desk span 999;spot a change 0;spot b change 0;line r;"
            + "link r a b from 999 till 999 every 1 takes 99";

    public static void main(String[] args) throws IOException {
        promise19();
        promise19Refused();
        promise20();
        promise20Itself();
        promise20Refused();
        promise21();
        promise21Several();
        promise21Refused();
        promise22();
        promise22Several();
        promise22None();
        promise22Refused();
        promise23();
        promise23Not();
        promise23Refused();
        promise24();
        promise24Refused();
        promise25();
        promise25Fewest();
        promise25Refused();
        promise26();
        promise26Without();
        promise26Refused();
        promise27();
        promise27NoWay();
        promise27Refused();
        promise28();
        promise28Refused();
        promise29();
        promise29Refused();
        promise29Which();
        promise30();
        promise30Refused();
        promise31();
        promise31Several();
        promise31None();
        promise31Refused();
        promise32();
        promise32None();
        promise32Refused();
        Edges.end("EdgesOfQuestionsTest", 19, 32);
    }

    private static void promise19() {
        Edges.of(19, "The latest TIME (0 .. 1,999) at which one can be READY at a, "
                + "to ARRIVE at b by a TIME (0 .. 1,999) or sooner.");
        LinkTimes x = Edges.desk();
        int[][] due = {{0, -2}, {29, -2}, {30, 10}, {49, 10}, {50, 30}, {69, 30}, {70, 50}, {71, 50}, {1999, 50}};
        for (int[] by : due) {
            Bench.good(x, "latest(a, c, " + by[0] + ")", x.latest(A, C, by[0]), by[1]);
        }
        Bench.good(x, "latest(d, a, 1999)", x.latest(D, A, 1999), -2);
        Bench.good(x, "latest(e, e, 0)", x.latest(E, E, 0), 0);
        Bench.good(x, "latest(e, e, 1999)", x.latest(E, E, 1999), 1999);
        LinkTimes first = Bench.with(MOST);
        Bench.good(first, "latest(a, b, 1): the first TIME of all", first.latest(0, 1, 1), 0);
        Bench.good(first, "latest(a, b, 0)", first.latest(0, 1, 0), -2);
        LinkTimes last = Bench.with(LAST);
        last.delay(0, 99);
        Bench.good(last, "latest(a, b, 1197)", last.latest(0, 1, 1197), 1098);
        Bench.good(last, "latest(a, b, 1196)", last.latest(0, 1, 1196), -2);
    }

    private static void promise19Refused() {
        Edges.of(19, "NONE: 1; 2.");
        LinkTimes x = Edges.desk();
        Edges.spots(x, "latest(s, b, 9)", s -> x.latest(s, B, 9));
        Edges.spots(x, "latest(a, s, 9)", s -> x.latest(A, s, 9));
        Edges.times(x, "latest(a, b, by)", by -> x.latest(A, B, by));
        Edges.times(x, "latest(e, e, by)", by -> x.latest(E, E, by));
    }

    private static void promise20() {
        Edges.of(20, "SPOTS (bits) at which one can ARRIVE by a TIME (0 .. 1,999) or sooner");
        LinkTimes x = Edges.desk();
        int[][] due = {{19, 1}, {20, 3}, {29, 3}, {30, 7}, {99, 7}, {100, 15}, {1999, 15}};
        for (int[] by : due) {
            Bench.good(x, "reach(a, 0, " + by[0] + ")", x.reach(A, 0, by[0]), by[1]);
        }
        Bench.good(x, "reach(a, 51, 1999)", x.reach(A, 51, 1999), 1);
        // The last of ten spots.
        StringBuilder text = new StringBuilder("desk span 9");
        for (char s = 'a'; s <= 'j'; s++) {
            text.append(";spot ").append(s).append(" change 0");
        }
        LinkTimes ten = Bench.with(text + ";line r;link r a j from 0 till 0 every 1 takes 1");
        Bench.good(ten, "reach(a, 0, 1)", ten.reach(0, 0, 1), 513);
        Bench.good(ten, "reach(j, 0, 1999)", ten.reach(9, 0, 1999), 512);
    }

    private static void promise20Itself() {
        Edges.of(20, "(a itself, if t is no later).");
        LinkTimes x = Edges.desk();
        Bench.good(x, "reach(e, 7, 6)", x.reach(E, 7, 6), 0);
        Bench.good(x, "reach(e, 7, 7)", x.reach(E, 7, 7), 16);
        Bench.good(x, "reach(e, 7, 8)", x.reach(E, 7, 8), 16);
        Bench.good(x, "reach(a, 0, 0)", x.reach(A, 0, 0), 1);
        Bench.good(x, "reach(a, 1999, 1999)", x.reach(A, 1999, 1999), 1);
        Bench.good(x, "reach(a, 1999, 0)", x.reach(A, 1999, 0), 0);
    }

    private static void promise20Refused() {
        Edges.of(20, "NONE: 1; 2 (t, by).");
        LinkTimes x = Edges.desk();
        Edges.spots(x, "reach(s, 0, 0)", s -> x.reach(s, 0, 0));
        Edges.times(x, "reach(a, t, 0)", t -> x.reach(A, t, 0));
        Edges.times(x, "reach(a, 0, by)", by -> x.reach(A, 0, by));
        Bench.refused(x, "reach(5, -1, -1)", x.reach(5, -1, -1), 1);
    }

    private static void promise21() {
        Edges.of(21, "The SPOT at which one ARRIVES last of all that can be reached "
                + "(of BEST WAYS; a itself ARRIVED at t),");
        LinkTimes x = Edges.desk();
        Bench.good(x, "farthest(a, 0)", x.farthest(A, 0), D);
        Bench.good(x, "farthest(a, 50)", x.farthest(A, 50), D);
        Bench.good(x, "farthest(a, 51): a itself alone", x.farthest(A, 51), A);
        Bench.good(x, "farthest(e, 1999)", x.farthest(E, 1999), E);
        x.cancel(7);
        Bench.good(x, "farthest(a, 0) without 7: c by the BEST WAY, at 30, not at 100", x.farthest(A, 0), C);
        x.extra(0, A, E, 0, 31);
        Bench.good(x, "farthest(a, 0) with e at 31", x.farthest(A, 0), E);
        x.extra(0, D, A, 0, 1);
        Bench.good(x, "farthest(d, 0): a at 1, b at 20, c at 30", x.farthest(D, 0), C);
        x.cancel(0);
        x.cancel(1);
        x.cancel(2);
        Bench.good(x, "farthest(d, 0): the first spot of all", x.farthest(D, 0), A);
    }

    private static void promise21Several() {
        Edges.of(21, "of several the first.");
        LinkTimes x = Edges.desk();
        x.extra(0, A, E, 1, 99);
        Bench.good(x, "farthest(a, 0): d and e at 100", x.farthest(A, 0), D);
        x.delay(8, 1);
        Bench.good(x, "farthest(a, 0): e at 101", x.farthest(A, 0), E);
    }

    private static void promise21Refused() {
        Edges.of(21, "NONE: 1; 2.");
        LinkTimes x = Edges.desk();
        Edges.spots(x, "farthest(s, 0)", s -> x.farthest(s, 0));
        Edges.times(x, "farthest(a, t)", t -> x.farthest(A, t));
        Bench.refused(x, "farthest(5, -1)", x.farthest(5, -1), 1);
    }

    private static void promise22() {
        Edges.of(22, "The SPOT at which two, READY at a and at b at t, can both be soonest,");
        LinkTimes x = Edges.desk();
        Bench.good(x, "meets(a, b, 0): where one is already", x.meets(A, B, 0), B);
        Bench.good(x, "meets(b, a, 0)", x.meets(B, A, 0), B);
        Bench.good(x, "meets(a, d, 0)", x.meets(A, D, 0), D);
        Bench.good(x, "meets(e, e, 1999)", x.meets(E, E, 1999), E);
        Bench.good(x, "meets(a, a, 7)", x.meets(A, A, 7), A);
        x.extra(0, A, E, 0, 19);
        x.extra(0, B, E, 0, 18);
        Bench.good(x, "meets(a, b, 0): e at 19 and 18, b at 20", x.meets(A, B, 0), E);
    }

    private static void promise22Several() {
        Edges.of(22, "of several the first;");
        LinkTimes x = Edges.desk();
        x.extra(0, A, E, 0, 20);
        x.extra(0, B, E, 0, 5);
        Bench.good(x, "meets(a, b, 0): b and e at 20", x.meets(A, B, 0), B);
        x.delay(0, 1);
        Bench.good(x, "meets(a, b, 0): b at 21", x.meets(A, B, 0), E);
    }

    private static void promise22None() {
        Edges.of(22, "-2 none.");
        LinkTimes x = Edges.desk();
        Bench.good(x, "meets(a, e, 0)", x.meets(A, E, 0), -2);
        Bench.good(x, "meets(a, b, 50)", x.meets(A, B, 50), B);
        Bench.good(x, "meets(a, b, 51)", x.meets(A, B, 51), -2);
        Bench.good(x, "meets(a, b, 1999)", x.meets(A, B, 1999), -2);
    }

    private static void promise22Refused() {
        Edges.of(22, "NONE: 1 (SPOTS); 2.");
        LinkTimes x = Edges.desk();
        Edges.spots(x, "meets(s, a, 0)", s -> x.meets(s, A, 0));
        Edges.spots(x, "meets(a, s, 0)", s -> x.meets(A, s, 0));
        Edges.times(x, "meets(a, a, t)", t -> x.meets(A, A, t));
        Bench.refused(x, "meets(0, 5, -1)", x.meets(0, 5, -1), 1);
    }

    private static void promise23() {
        Edges.of(23, "When one is back at a, by a BEST WAY to b, staying there for so many TICKS (0 .. 999), "
                + "and by one back, READY then;");
        LinkTimes x = Bench.with(BACK);
        Bench.good(x, "round(a, b, 0, 0): at once, with any CHANGE and WAIT", x.round(0, 1, 0, 0), 25);
        Bench.good(x, "round(a, b, 10, 0)", x.round(0, 1, 10, 0), 25);
        Bench.good(x, "round(a, b, 0, 1)", x.round(0, 1, 0, 1), 35);
        Bench.good(x, "round(a, b, 0, 10)", x.round(0, 1, 0, 10), 35);
        x.extra(0, 1, 0, 999, 5);
        x.delay(3, 20);
        Bench.good(x, "round(a, b, 0, 999): READY at 1,019, just in time", x.round(0, 1, 0, 999), 1024);
        x.delay(3, 19);
        Bench.good(x, "round(a, b, 0, 999): READY at 1,019, too late", x.round(0, 1, 0, 999), -2);
        Bench.good(x, "round(a, b, 0, 998)", x.round(0, 1, 0, 998), 1023);
        Bench.good(x, "round(a, a, 0, 0)", x.round(0, 0, 0, 0), 0);
        Bench.good(x, "round(a, a, 7, 999)", x.round(0, 0, 7, 999), 1006);
        Bench.good(x, "round(a, a, 1999, 999)", x.round(0, 0, 1999, 999), 2998);
    }

    private static void promise23Not() {
        Edges.of(23, "-2 not.");
        LinkTimes x = Bench.with(BACK);
        Bench.good(x, "round(a, b, 0, 11): no WAY back", x.round(0, 1, 0, 11), -2);
        Bench.good(x, "round(a, b, 11, 0): no WAY there", x.round(0, 1, 11, 0), -2);
        Bench.good(x, "round(b, a, 0, 0): there at 25, too late for the WAY back", x.round(1, 0, 0, 0), -2);
        Bench.good(x, "round(a, b, 1999, 999)", x.round(0, 1, 1999, 999), -2);
        LinkTimes last = Bench.with(LAST);
        last.delay(0, 99);
        Bench.good(last, "round(a, b, 0, 999): READY behind the last TIME", last.round(0, 1, 0, 999), -2);
    }

    private static void promise23Refused() {
        Edges.of(23, "NONE: 1 (SPOTS); 2.");
        LinkTimes x = Edges.desk();
        Edges.spots(x, "round(s, a, 0, 0)", s -> x.round(s, A, 0, 0));
        Edges.spots(x, "round(a, s, 0, 0)", s -> x.round(A, s, 0, 0));
        Edges.times(x, "round(a, b, t, 0)", t -> x.round(A, B, t, 0));
        Edges.range(x, "round(a, b, 0, stay)", 2, 0, 999, stay -> x.round(A, B, 0, stay));
        Edges.range(x, "round(e, e, 0, stay)", 2, 0, 999, stay -> x.round(E, E, 0, stay));
    }

    private static void promise24() {
        Edges.of(24, "How many STEPS.");
        LinkTimes x = Edges.desk();
        Bench.good(x, "steps(a, b)", x.steps(A, B), 3);
        Bench.good(x, "steps(a, d)", x.steps(A, D), 1);
        Bench.good(x, "steps(d, a)", x.steps(D, A), 0);
        Bench.good(x, "steps(a, e)", x.steps(A, E), 0);
        LinkTimes most = Bench.with(MOST);
        Bench.good(most, "steps(a, b) of the most", most.steps(0, 1), 120);
    }

    private static void promise24Refused() {
        Edges.of(24, "NONE: 1 (unlike SPOTS).");
        LinkTimes x = Edges.desk();
        Edges.unlike(x, "steps", s -> x.steps(s, B), s -> x.steps(A, s), s -> x.steps(s, s));
    }

    private static void promise25() {
        Edges.of(25, "Of the i-th 0 LEAVES, 1 ARRIVES,");
        LinkTimes x = Edges.desk();
        for (int i = 0; i < 3; i++) {
            Bench.good(x, "step(a, c, " + i + ", 0)", x.step(A, C, i, 0), 10 + 20 * i);
            Bench.good(x, "step(a, c, " + i + ", 1)", x.step(A, C, i, 1), 30 + 20 * i);
        }
        LinkTimes most = Bench.with(MOST);
        Bench.good(most, "step(a, b, 0, 0) of the most", most.step(0, 1, 0, 0), 0);
        Bench.good(most, "step(a, b, 119, 1) of the most", most.step(0, 1, 119, 1), 120);
    }

    private static void promise25Fewest() {
        Edges.of(25, "2 the fewest CHANGES of WAYS of that pair.");
        LinkTimes x = Edges.desk();
        Bench.good(x, "step(a, c, 0, 2)", x.step(A, C, 0, 2), 1);
        Bench.good(x, "step(a, b, 0, 2)", x.step(A, B, 0, 2), 0);
        x.extra(0, A, C, 10, 20);
        Bench.good(x, "steps(a, c) with one more of the first pair", x.steps(A, C), 3);
        Bench.good(x, "step(a, c, 0, 2) with it", x.step(A, C, 0, 2), 0);
        Bench.good(x, "step(a, c, 1, 2) with it", x.step(A, C, 1, 2), 1);
        // A WAY with none that LEAVES a tick earlier, or ARRIVES a tick later, is of another pair.
        x.delay(8, 1);
        Bench.good(x, "steps(a, c) with it late", x.steps(A, C), 4);
        Bench.good(x, "step(a, c, 0, 2) with it late", x.step(A, C, 0, 2), 1);
        Bench.good(x, "step(a, c, 1, 2) with it late", x.step(A, C, 1, 2), 0);
        x.undo();
        x.undo();
        x.extra(0, A, C, 9, 21);
        Bench.good(x, "step(a, c, 0, 2) with one a tick earlier", x.step(A, C, 0, 2), 1);
        // The fewest, whichever of the two has the lesser number.
        LinkTimes y = Bench.with("desk span 99;spot a change 0;spot b change 0;spot c change 0;line r;line g");
        y.extra(0, 0, 2, 10, 20);
        y.extra(0, 0, 1, 10, 10);
        y.extra(1, 1, 2, 20, 10);
        Bench.good(y, "steps(a, c): none by 0, one by 1 and 2", y.steps(0, 2), 1);
        Bench.good(y, "step(a, c, 0, 2): none by 0, one by 1 and 2", y.step(0, 2, 0, 2), 0);
        // The same the other way round, behind a question that had one CHANGE a STEP.
        LinkTimes z = Edges.desk();
        z.extra(0, D, A, 0, 5);
        z.extra(1, A, E, 10, 10);
        z.extra(0, D, E, 0, 20);
        Bench.good(z, "step(a, c, 2, 2)", z.step(A, C, 2, 2), 1);
        Bench.good(z, "step(d, e, 0, 2): one by 8 and 9, none by 10", z.step(D, E, 0, 2), 0);
        // Of one LEAVES the sooner one counts alone, with its own CHANGES.
        y.extra(0, 0, 2, 10, 21);
        y.cancel(0);
        Bench.good(y, "step(a, c, 0, 1) of 30 by one, 31 by none", y.step(0, 2, 0, 1), 30);
        Bench.good(y, "step(a, c, 0, 2) of 30 by one, 31 by none", y.step(0, 2, 0, 2), 1);
    }

    private static void promise25Refused() {
        Edges.of(25, "NONE: 1 (unlike SPOTS; i, what).");
        LinkTimes x = Edges.desk();
        Edges.unlike(x, "step", s -> x.step(s, B, 0, 0), s -> x.step(A, s, 0, 0), s -> x.step(s, s, 0, 0));
        for (int what = 0; what <= 2; what++) {
            int asked = what;
            Edges.range(x, "step(a, c, i, " + what + ")", 1, 0, 2, i -> x.step(A, C, i, asked));
            Edges.range(x, "step(a, d, i, " + what + ")", 1, 0, 0, i -> x.step(A, D, i, asked));
        }
        Edges.range(x, "step(a, c, 0, what)", 1, 0, 2, what -> x.step(A, C, 0, what));
        Edges.refuses(x, "step(d, a, i, 0): there is none", 1, i -> x.step(D, A, i, 0), -1, 0, 1);
    }

    private static void promise26() {
        Edges.of(26, "The least ARRIVES less LEAVES of all STEPS;");
        LinkTimes x = Edges.desk();
        Bench.good(x, "quickest(a, c)", x.quickest(A, C), 20);
        Bench.good(x, "quickest(a, d)", x.quickest(A, D), 50);
        x.delay(0, 0);
        x.delay(4, 1);
        Bench.good(x, "quickest(a, c): one is slower now", x.quickest(A, C), 20);
        x.extra(0, A, C, 40, 1);
        Bench.good(x, "quickest(a, c) of 1", x.quickest(A, C), 1);
        LinkTimes last = Bench.with(LAST);
        Bench.good(last, "quickest(a, b) of 99", last.quickest(0, 1), 99);
    }

    private static void promise26Without() {
        Edges.of(26, "-2 without any.");
        LinkTimes x = Edges.desk();
        Bench.good(x, "quickest(d, a)", x.quickest(D, A), -2);
        x.cancel(7);
        Bench.good(x, "quickest(c, d) without 7", x.quickest(C, D), -2);
    }

    private static void promise26Refused() {
        Edges.of(26, "NONE: 1 (unlike SPOTS).");
        LinkTimes x = Edges.desk();
        Edges.unlike(x, "quickest", s -> x.quickest(s, B), s -> x.quickest(A, s), s -> x.quickest(s, s));
    }

    private static void promise27() {
        Edges.of(27, "All ARRIVES less READY together, READY at each TICK from one to another one (no less; 0 .. 1,999);");
        LinkTimes x = Edges.desk();
        Bench.good(x, "spent(a, c, 10, 10)", x.spent(A, C, 10, 10), 20);
        Bench.good(x, "spent(a, c, 10, 11)", x.spent(A, C, 10, 11), 20 + 39);
        Bench.good(x, "spent(a, c, 0, 10)", x.spent(A, C, 0, 10), 11 * 30 - 55);
        Bench.good(x, "spent(a, c, 0, 50)", x.spent(A, C, 0, 50), 11 * 30 + 20 * 50 + 20 * 70 - 1275);
        Bench.good(x, "spent(a, c, 50, 50)", x.spent(A, C, 50, 50), 20);
        LinkTimes last = Bench.with(LAST);
        last.delay(0, 99);
        Bench.good(last, "spent(a, b, 0, 1098)", last.spent(0, 1, 0, 1098), 1099 * 1197 - 1098 * 1099 / 2);
        Bench.good(last, "spent(a, b, 1098, 1098)", last.spent(0, 1, 1098, 1098), 99);
    }

    private static void promise27NoWay() {
        Edges.of(27, "-2 if at some of them there is no WAY.");
        LinkTimes x = Edges.desk();
        Bench.good(x, "spent(a, c, 50, 51)", x.spent(A, C, 50, 51), -2);
        Bench.good(x, "spent(a, c, 0, 1999)", x.spent(A, C, 0, 1999), -2);
        Bench.good(x, "spent(a, c, 1999, 1999)", x.spent(A, C, 1999, 1999), -2);
        Bench.good(x, "spent(d, a, 0, 0)", x.spent(D, A, 0, 0), -2);
    }

    private static void promise27Refused() {
        Edges.of(27, "NONE: 1 (unlike SPOTS); 2.");
        LinkTimes x = Edges.desk();
        Edges.unlike(x, "spent", s -> x.spent(s, B, 0, 0), s -> x.spent(A, s, 0, 0), s -> x.spent(s, s, 0, 0));
        Edges.range(x, "spent(a, b, from, 1999)", 2, 0, 1999, from -> x.spent(A, B, from, 1999));
        Edges.range(x, "spent(a, b, 0, till)", 2, 0, 1999, till -> x.spent(A, B, 0, till));
        Edges.range(x, "spent(a, b, from, 7)", 2, 0, 7, from -> x.spent(A, B, from, 7));
        Edges.range(x, "spent(a, b, 7, till)", 2, 7, 1999, till -> x.spent(A, B, 7, till));
        Bench.refused(x, "spent(a, a, 7, 6)", x.spent(A, A, 7, 6), 1);
    }

    private static void promise28() {
        Edges.of(28, "How many WAYS one has one behind the other, each the BEST WAY "
                + "without DEPARTURES that those ahead of it ride.");
        LinkTimes x = Edges.desk();
        Bench.good(x, "others(a, c, 0)", x.others(A, C, 0), 3);
        Bench.good(x, "others(a, c, 11)", x.others(A, C, 11), 2);
        Bench.good(x, "others(a, c, 51)", x.others(A, C, 51), 0);
        Bench.good(x, "others(a, d, 0): all need 7", x.others(A, D, 0), 1);
        Bench.good(x, "others(d, a, 0)", x.others(D, A, 0), 0);
        Bench.good(x, "about(5): all of them RUN", x.about(5), Edges.DEPARTURES);
        // Only what a WAY ahead rides is out: the WAY of another question doesn't count.
        Bench.good(x, "rides(a, d, 0): 2, 5 and 7", x.rides(A, D, 0), 3);
        Bench.good(x, "others(b, c, 0): 3, 4, 5 and 6", x.others(B, C, 0), 4);
        LinkTimes most = Bench.with(MOST);
        Bench.good(most, "others(a, b, 0) of the most", most.others(0, 1, 0), 120);
    }

    private static void promise28Refused() {
        Edges.of(28, "NONE: 1 (unlike SPOTS); 2.");
        LinkTimes x = Edges.desk();
        Edges.unlike(x, "others", s -> x.others(s, B, 0), s -> x.others(A, s, 0), s -> x.others(s, s, 0));
        Edges.times(x, "others(a, b, t)", t -> x.others(A, B, t));
        Bench.refused(x, "others(a, a, -1)", x.others(A, A, -1), 1);
    }

    private static void promise29() {
        Edges.of(29, "When the i-th of them (the BEST one: 0) ARRIVES.");
        LinkTimes x = Edges.desk();
        for (int i = 0; i < 3; i++) {
            Bench.good(x, "other(a, c, 0, " + i + ")", x.other(A, C, 0, i), 30 + 20 * i);
        }
        Bench.good(x, "other(a, c, 0, 0): like arrives()", x.arrives(A, C, 0), 30);
        LinkTimes most = Bench.with(MOST);
        Bench.good(most, "other(a, b, 0, 119) of the most", most.other(0, 1, 0, 119), 120);
    }

    private static void promise29Refused() {
        Edges.of(29, "NONE: 1 (unlike SPOTS); 2;");
        LinkTimes x = Edges.desk();
        Edges.unlike(x, "other", s -> x.other(s, B, 0, 0), s -> x.other(A, s, 0, 0), s -> x.other(s, s, 0, 0));
        Bench.good(x, "other(a, b, 0, 0)", x.other(A, B, 0, 0), 20);
        Edges.refuses(x, "other(a, b, t, 0)", 2, t -> x.other(A, B, t, 0), -1, 2000);
        Edges.refuses(x, "other(a, b, t, -1)", 2, t -> x.other(A, B, t, -1), -1, 2000);
    }

    private static void promise29Which() {
        Edges.of(29, "1 (i).");
        LinkTimes x = Edges.desk();
        Edges.range(x, "other(a, c, 0, i)", 1, 0, 2, i -> x.other(A, C, 0, i));
        Edges.range(x, "other(a, d, 0, i)", 1, 0, 0, i -> x.other(A, D, 0, i));
        Edges.refuses(x, "other(d, a, 0, i): there is none", 1, i -> x.other(D, A, 0, i), -1, 0, 1);
        Edges.refuses(x, "other(a, b, 1999, i): there is none", 1, i -> x.other(A, B, 1999, i), -1, 0, 1);
        LinkTimes most = Bench.with(MOST);
        Edges.range(most, "other(a, b, 0, i) of the most", 1, 0, 119, i -> most.other(0, 1, 0, i));
    }

    private static void promise30() {
        Edges.of(30, "From how many SPOTS to how many others (each two count) there is a WAY, READY at t.");
        LinkTimes x = Edges.desk();
        Bench.good(x, "pairs(0)", x.pairs(0), 6);
        Bench.good(x, "pairs(50)", x.pairs(50), 6);
        Bench.good(x, "pairs(51)", x.pairs(51), 3);
        Bench.good(x, "pairs(70)", x.pairs(70), 1);
        Bench.good(x, "pairs(71)", x.pairs(71), 0);
        Bench.good(x, "pairs(1999)", x.pairs(1999), 0);
        LinkTimes back = Bench.with(BACK);
        Bench.good(back, "pairs(0): there and back", back.pairs(0), 2);
        LinkTimes one = Bench.with("desk span 9;spot a change 0");
        Bench.good(one, "pairs(0) of one spot", one.pairs(0), 0);
        // All of ten spots: a ring that leaves again and again.
        LinkTimes ring = Bench.with(ring());
        Bench.good(ring, "pairs(0) of ten spots", ring.pairs(0), 90);
    }

    private static String ring() {
        StringBuilder text = new StringBuilder("desk span 99");
        for (int s = 0; s < 10; s++) {
            text.append(";spot ").append((char) ('a' + s)).append(" change 0");
        }
        text.append(";line r");
        for (int s = 0; s < 10; s++) {
            text.append(";link r ").append((char) ('a' + s)).append(" ").append((char) ('a' + (s + 1) % 10));
            text.append(" from 0 till 99 every 9 takes 9");
        }
        return text.toString();
    }

    private static void promise30Refused() {
        Edges.of(30, "NONE: 1 (no DESK); 2.");
        LinkTimes x = Edges.desk();
        Edges.times(x, "pairs()", x::pairs);
        LinkTimes none = new LinkTimes();
        Edges.refuses(none, "pairs() without a desk", 1, none::pairs, -1, 0, 1999, 2000);
    }

    /** Four WAYS change once at y (0) or three do, one of s-z changes twice at m (6): all in all 4 times there. */
    private static LinkTimes hubs() {
        LinkTimes x = Bench.with("desk span 99;spot y change 0;spot v change 0;spot ua change 0;spot ub change 0;"
                + "spot uc change 0;spot s change 0;spot m change 0 wait 0;spot n change 0;spot z change 0;"
                + "spot ud change 0;line r;line g");
        x.extra(0, 2, 0, 40, 5);
        x.extra(0, 3, 0, 40, 5);
        x.extra(0, 4, 0, 40, 5);
        x.extra(1, 0, 1, 50, 5);
        x.extra(0, 5, 6, 0, 10);
        x.extra(1, 6, 7, 10, 10);
        x.extra(0, 7, 6, 20, 10);
        x.extra(1, 6, 8, 30, 10);
        return x;
    }

    private static void promise31() {
        Edges.of(31, "The SPOT at which most BEST WAYS of those CHANGE (as often as they do),");
        LinkTimes x = Edges.desk();
        Bench.good(x, "hub(0): a-c and a-d at b", x.hub(0), B);
        Bench.good(x, "hub(50)", x.hub(50), B);
        LinkTimes y = hubs();
        // s-n once, s-z twice and n-z once at m; three WAYS once each at y.
        Bench.good(y, "hub(0): one WAY changes there twice", y.hub(0), 6);
        Bench.good(y, "hub(1)", y.hub(1), 0);
        Bench.good(y, "hub(46): the one who asked ahead of it counts no more", y.hub(46), -2);
        // Just one WAY, with just one CHANGE, to the first spot of all.
        LinkTimes z = Bench.with("desk span 99;spot a change 0;spot b change 0;spot c change 0;line r;line g");
        z.extra(0, 2, 1, 10, 10);
        z.extra(1, 1, 0, 20, 10);
        Bench.good(z, "hub(0) of one CHANGE", z.hub(0), 1);
        Bench.good(z, "slowest(0) to the first spot", z.slowest(0), 30);
    }

    private static void promise31Several() {
        Edges.of(31, "of several the first;");
        LinkTimes y = hubs();
        y.extra(0, 9, 0, 40, 5);
        Bench.good(y, "hub(0): four at y, four at m", y.hub(0), 0);
        y.cancel(8);
        Bench.good(y, "hub(0): three at y, four at m", y.hub(0), 6);
    }

    private static void promise31None() {
        Edges.of(31, "-2 none does.");
        LinkTimes x = Edges.desk();
        Bench.good(x, "hub(51): there are WAYS, without CHANGES", x.hub(51), -2);
        Bench.good(x, "hub(71): there is no WAY", x.hub(71), -2);
        Bench.good(x, "hub(1999)", x.hub(1999), -2);
        x.cancel(3);
        x.cancel(4);
        x.cancel(5);
        Bench.good(x, "hub(0) of one LINE a WAY", x.hub(0), -2);
    }

    private static void promise31Refused() {
        Edges.of(31, "NONE: 1 (no DESK); 2.");
        LinkTimes x = Edges.desk();
        Edges.times(x, "hub()", x::hub);
        LinkTimes none = new LinkTimes();
        Edges.refuses(none, "hub() without a desk", 1, none::hub, -1, 0, 1999, 2000);
    }

    private static void promise32() {
        Edges.of(32, "Of those the most TICKS from t to when a BEST WAY ARRIVES;");
        LinkTimes x = Edges.desk();
        Bench.good(x, "slowest(0)", x.slowest(0), 100);
        Bench.good(x, "slowest(70)", x.slowest(70), 30);
        x.cancel(7);
        Bench.good(x, "slowest(0) without 7: c at 30 by a BEST WAY", x.slowest(0), 30);
        Bench.good(x, "slowest(50) without 7", x.slowest(50), 20);
        Bench.good(x, "slowest(51) without 7", x.slowest(51), 19);
        LinkTimes last = Bench.with(LAST);
        last.delay(0, 99);
        Bench.good(last, "slowest(0) of the latest", last.slowest(0), 1197);
        Bench.good(last, "slowest(1098) of the latest", last.slowest(1098), 99);
    }

    private static void promise32None() {
        Edges.of(32, "-2 there is none.");
        LinkTimes x = Edges.desk();
        Bench.good(x, "slowest(71)", x.slowest(71), -2);
        Bench.good(x, "slowest(1999)", x.slowest(1999), -2);
        LinkTimes one = Bench.with("desk span 9;spot a change 0");
        Bench.good(one, "slowest(0) of one spot", one.slowest(0), -2);
    }

    private static void promise32Refused() {
        Edges.of(32, "NONE: 1 (no DESK); 2.");
        LinkTimes x = Edges.desk();
        Edges.times(x, "slowest()", x::slowest);
        LinkTimes none = new LinkTimes();
        Edges.refuses(none, "slowest() without a desk", 1, none::slowest, -1, 0, 1999, 2000);
    }
}
