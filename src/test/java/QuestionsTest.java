/** Promises 19 to 32: the other questions. */
public final class QuestionsTest {
    /** Departures 0 a-b 0..5, 1 a-b 10..15, 2 b-a 8..12, 3 b-a 20..24, 4 b-c 6..9, 5 c-b 9..14. */
    private static final String THERE = "desk span 50;spot a change 1;spot b change 1;spot c change 1;line r;"
            + "link r a b from 0 till 10 every 10 takes 5;link r b a from 8 till 20 every 12 takes 4;"
            + "link r b c from 6 till 6 every 1 takes 3;link r c b from 9 till 9 every 1 takes 5";

    public static void main(String[] args) {
        latestCall();
        reachCall();
        farthestCall();
        meetsCall();
        roundCall();
        stepCalls();
        quickestCall();
        spentCall();
        otherCalls();
        pairsCall();
        hubCall();
        slowestCall();
        Bench.end("QuestionsTest");
    }

    private static void latestCall() {
        LinkTimes x = Bench.with(TextTest.BASE);
        Bench.good(x, "latest(0, 3, 27)", x.latest(0, 3, 27), -2);
        Bench.good(x, "latest(0, 3, 28)", x.latest(0, 3, 28), 2);
        Bench.good(x, "latest(0, 3, 57)", x.latest(0, 3, 57), 2);
        Bench.good(x, "latest(0, 3, 58)", x.latest(0, 3, 58), 20);
        Bench.good(x, "latest(0, 3, 1999)", x.latest(0, 3, 1999), 20);
        Bench.good(x, "latest(3, 3, 1999)", x.latest(3, 3, 1999), 1999);
        Bench.good(x, "latest(3, 0, 1999)", x.latest(3, 0, 1999), -2);
        Bench.refused(x, "latest(0, 5, 0)", x.latest(0, 5, 0), 1);
        Bench.refused(x, "latest(-1, 0, 2000)", x.latest(-1, 0, 2000), 1);
        Bench.refused(x, "latest(0, 3, 2000)", x.latest(0, 3, 2000), 2);
        Bench.refused(x, "latest(0, 0, -1)", x.latest(0, 0, -1), 2);
    }

    private static void reachCall() {
        LinkTimes x = Bench.with(TextTest.BASE);
        Bench.good(x, "reach(0, 0, 0)", x.reach(0, 0, 0), 1);
        Bench.good(x, "reach(0, 0, 21)", x.reach(0, 0, 21), 3);
        Bench.good(x, "reach(0, 0, 22)", x.reach(0, 0, 22), 7);
        Bench.good(x, "reach(0, 0, 28)", x.reach(0, 0, 28), 15);
        Bench.good(x, "reach(0, 3, 28)", x.reach(0, 3, 28), 3);
        Bench.good(x, "reach(0, 1, 0)", x.reach(0, 1, 0), 0);
        Bench.good(x, "reach(4, 7, 7)", x.reach(4, 7, 7), 16);
        Bench.refused(x, "reach(5, 0, 0)", x.reach(5, 0, 0), 1);
        Bench.refused(x, "reach(0, 2000, 0)", x.reach(0, 2000, 0), 2);
        Bench.refused(x, "reach(0, 0, 2000)", x.reach(0, 0, 2000), 2);
        Bench.refused(x, "reach(0, 0, -1)", x.reach(0, 0, -1), 2);
    }

    private static void farthestCall() {
        LinkTimes x = Bench.with(TextTest.BASE);
        Bench.good(x, "farthest(0, 0)", x.farthest(0, 0), 3);
        Bench.good(x, "farthest(4, 9)", x.farthest(4, 9), 4);
        Bench.good(x, "farthest(0, 21)", x.farthest(0, 21), 1);
        x.extra(0, 0, 4, 30, 15);
        Bench.good(x, "farthest(0, 21): of several the first", x.farthest(0, 21), 1);
        x.delay(12, 1);
        Bench.good(x, "farthest(0, 21) with 12 late", x.farthest(0, 21), 4);
        Bench.refused(x, "farthest(-1, 0)", x.farthest(-1, 0), 1);
        Bench.refused(x, "farthest(0, 2000)", x.farthest(0, 2000), 2);
    }

    private static void meetsCall() {
        LinkTimes x = Bench.with(TextTest.BASE);
        Bench.good(x, "meets(0, 1, 0)", x.meets(0, 1, 0), 1);
        Bench.good(x, "meets(1, 0, 0)", x.meets(1, 0, 0), 1);
        Bench.good(x, "meets(0, 2, 0)", x.meets(0, 2, 0), 2);
        Bench.good(x, "meets(0, 4, 0)", x.meets(0, 4, 0), -2);
        Bench.good(x, "meets(2, 2, 5)", x.meets(2, 2, 5), 2);
        x.extra(0, 0, 4, 0, 5);
        x.extra(0, 1, 4, 0, 3);
        Bench.good(x, "meets(0, 1, 0): of several the first", x.meets(0, 1, 0), 1);
        x.delay(0, 1);
        Bench.good(x, "meets(0, 1, 0) with 0 late", x.meets(0, 1, 0), 4);
        Bench.refused(x, "meets(0, 5, 0)", x.meets(0, 5, 0), 1);
        Bench.refused(x, "meets(5, 0, -1)", x.meets(5, 0, -1), 1);
        Bench.refused(x, "meets(0, 1, -1)", x.meets(0, 1, -1), 2);
    }

    private static void roundCall() {
        LinkTimes x = Bench.with(THERE);
        Bench.good(x, "round(0, 1, 0, 0)", x.round(0, 1, 0, 0), 12);
        Bench.good(x, "round(0, 1, 0, 3)", x.round(0, 1, 0, 3), 12);
        Bench.good(x, "round(0, 1, 0, 4)", x.round(0, 1, 0, 4), 24);
        Bench.good(x, "round(0, 1, 0, 15)", x.round(0, 1, 0, 15), 24);
        Bench.good(x, "round(0, 1, 0, 16)", x.round(0, 1, 0, 16), -2);
        Bench.good(x, "round(0, 1, 1, 0)", x.round(0, 1, 1, 0), 24);
        Bench.good(x, "round(0, 1, 11, 0)", x.round(0, 1, 11, 0), -2);
        Bench.good(x, "round(0, 0, 3, 999)", x.round(0, 0, 3, 999), 1002);
        Bench.refused(x, "round(0, 3, 0, 0)", x.round(0, 3, 0, 0), 1);
        Bench.refused(x, "round(0, 1, 2000, 0)", x.round(0, 1, 2000, 0), 2);
        Bench.refused(x, "round(0, 1, 0, -1)", x.round(0, 1, 0, -1), 2);
        Bench.refused(x, "round(0, 1, 0, 1000)", x.round(0, 1, 0, 1000), 2);
    }

    private static void stepCalls() {
        LinkTimes x = Bench.with(TextTest.BASE);
        Bench.good(x, "steps(0, 3)", x.steps(0, 3), 2);
        Bench.good(x, "steps(1, 3)", x.steps(1, 3), 3);
        Bench.good(x, "steps(3, 1)", x.steps(3, 1), 0);
        int[][] want = {{2, 28, 1}, {20, 58, 2}};
        for (int i = 0; i < 2; i++) {
            for (int what = 0; what <= 2; what++) {
                Bench.good(x, "step(0, 3, " + i + ", " + what + ")", x.step(0, 3, i, what), want[i][what]);
            }
        }
        Bench.refused(x, "step(0, 3, 2, 0)", x.step(0, 3, 2, 0), 1);
        Bench.refused(x, "step(0, 3, -1, 0)", x.step(0, 3, -1, 0), 1);
        Bench.refused(x, "step(0, 3, 0, 3)", x.step(0, 3, 0, 3), 1);
        Bench.refused(x, "step(0, 3, 0, -1)", x.step(0, 3, 0, -1), 1);
        Bench.refused(x, "step(3, 1, 0, 0)", x.step(3, 1, 0, 0), 1);
        Bench.refused(x, "step(0, 0, 0, 0)", x.step(0, 0, 0, 0), 1);
        Bench.refused(x, "steps(2, 2)", x.steps(2, 2), 1);
        Bench.refused(x, "steps(0, 5)", x.steps(0, 5), 1);
        // Of one pair the fewest changes; of one LEAVES the first that ARRIVES.
        x.extra(1, 0, 3, 2, 26);
        Bench.good(x, "steps(0, 3) with one like another", x.steps(0, 3), 2);
        Bench.good(x, "step(0, 3, 0, 2) with one like another", x.step(0, 3, 0, 2), 0);
        x.undo();
        // The one with fewer changes has the lesser number now: 0 and 12, both of r.
        x.delay(0, 2);
        x.extra(0, 1, 3, 7, 21);
        Bench.good(x, "steps(0, 3) with 0 and 12", x.steps(0, 3), 2);
        Bench.good(x, "step(0, 3, 0, 0) with 0 and 12", x.step(0, 3, 0, 0), 2);
        Bench.good(x, "step(0, 3, 0, 2) with 0 and 12", x.step(0, 3, 0, 2), 0);
        // One that LEAVES earlier is another pair: its changes don't count for this one.
        x.delay(0, 1);
        Bench.good(x, "steps(0, 3) with 0 sooner", x.steps(0, 3), 2);
        Bench.good(x, "step(0, 3, 0, 0) with 0 sooner", x.step(0, 3, 0, 0), 2);
        Bench.good(x, "step(0, 3, 0, 2) with 0 sooner", x.step(0, 3, 0, 2), 1);
        x.extra(1, 0, 3, 2, 25);
        Bench.good(x, "steps(0, 3) with a sooner one", x.steps(0, 3), 2);
        Bench.good(x, "step(0, 3, 0, 1) with a sooner one", x.step(0, 3, 0, 1), 27);
    }

    private static void quickestCall() {
        LinkTimes x = Bench.with(TextTest.BASE);
        Bench.good(x, "quickest(0, 3)", x.quickest(0, 3), 26);
        Bench.good(x, "quickest(1, 3)", x.quickest(1, 3), 12);
        Bench.good(x, "quickest(3, 1)", x.quickest(3, 1), -2);
        x.delay(7, 3);
        x.delay(3, 2);
        Bench.good(x, "quickest(1, 3) with 3 and 7 late", x.quickest(1, 3), 12);
        x.delay(3, 4);
        Bench.good(x, "quickest(1, 3) with 3 later", x.quickest(1, 3), 11);
        Bench.refused(x, "quickest(1, 1)", x.quickest(1, 1), 1);
        Bench.refused(x, "quickest(5, 1)", x.quickest(5, 1), 1);
    }

    private static void spentCall() {
        LinkTimes x = Bench.with(TextTest.BASE);
        Bench.good(x, "spent(1, 3, 0, 6)", x.spent(1, 3, 0, 6), 105);
        Bench.good(x, "spent(1, 3, 6, 7)", x.spent(1, 3, 6, 7), 43);
        Bench.good(x, "spent(1, 3, 46, 46)", x.spent(1, 3, 46, 46), 12);
        Bench.good(x, "spent(1, 3, 46, 47)", x.spent(1, 3, 46, 47), -2);
        Bench.good(x, "spent(1, 3, 0, 1999)", x.spent(1, 3, 0, 1999), -2);
        Bench.good(x, "spent(3, 1, 0, 0)", x.spent(3, 1, 0, 0), -2);
        // READY at 0 .. 46 one is there at 18, 38 or 58.
        Bench.good(x, "spent(1, 3, 0, 46)", x.spent(1, 3, 0, 46), 7 * 18 + 20 * 38 + 20 * 58 - 1081);
        Bench.refused(x, "spent(1, 1, 0, 0)", x.spent(1, 1, 0, 0), 1);
        Bench.refused(x, "spent(1, 3, 5, 4)", x.spent(1, 3, 5, 4), 2);
        Bench.refused(x, "spent(1, 3, -1, 4)", x.spent(1, 3, -1, 4), 2);
        Bench.refused(x, "spent(1, 3, 0, 2000)", x.spent(1, 3, 0, 2000), 2);
    }

    private static void otherCalls() {
        LinkTimes x = Bench.with(TextTest.BASE);
        Bench.good(x, "others(1, 3, 0)", x.others(1, 3, 0), 3);
        int[] ends = {18, 38, 58};
        for (int i = 0; i < 3; i++) {
            Bench.good(x, "other(1, 3, 0, " + i + ")", x.other(1, 3, 0, i), ends[i]);
        }
        Bench.refused(x, "other(1, 3, 0, 3)", x.other(1, 3, 0, 3), 1);
        Bench.refused(x, "other(1, 3, 0, -1)", x.other(1, 3, 0, -1), 1);
        Bench.refused(x, "other(1, 3, 0, 500)", x.other(1, 3, 0, 500), 1);
        Bench.good(x, "others(3, 1, 0)", x.others(3, 1, 0), 0);
        Bench.refused(x, "other(3, 1, 0, 0)", x.other(3, 1, 0, 0), 1);
        // 8 rides the BEST one; what is left of it can't be used again.
        Bench.good(x, "others(0, 3, 0)", x.others(0, 3, 0), 3);
        Bench.good(x, "other(0, 3, 0, 1)", x.other(0, 3, 0, 1), 38);
        Bench.good(x, "about(5): all of them run still", x.about(5), 12);
        Bench.refused(x, "others(1, 1, 0)", x.others(1, 1, 0), 1);
        LinkTimes most = Bench.with("desk span 999;spot a change 0;spot b change 0;line r;"
                + "link r a b from 0 till 119 every 1 takes 1");
        Bench.good(most, "others(0, 1, 0) of the most", most.others(0, 1, 0), 120);
        Bench.good(most, "other(0, 1, 0, 119) of the most", most.other(0, 1, 0, 119), 120);
        Bench.refused(most, "other(0, 1, 0, 120) of the most", most.other(0, 1, 0, 120), 1);
        Bench.good(most, "steps(0, 1) of the most", most.steps(0, 1), 120);
        Bench.good(most, "step(0, 1, 119, 1) of the most", most.step(0, 1, 119, 1), 120);
        Bench.good(most, "spent(0, 1, 0, 119) of the most", most.spent(0, 1, 0, 119), 120);
        Bench.refused(x, "others(1, 3, 2000)", x.others(1, 3, 2000), 2);
        Bench.refused(x, "other(1, 1, 0, 0)", x.other(1, 1, 0, 0), 1);
        Bench.refused(x, "other(1, 3, -1, -1)", x.other(1, 3, -1, -1), 2);
    }

    private static void pairsCall() {
        LinkTimes x = Bench.with(TextTest.BASE);
        Bench.good(x, "pairs(0)", x.pairs(0), 6);
        Bench.good(x, "pairs(21)", x.pairs(21), 4);
        Bench.good(x, "pairs(52)", x.pairs(52), 1);
        Bench.good(x, "pairs(53)", x.pairs(53), 0);
        Bench.refused(x, "pairs(-1)", x.pairs(-1), 2);
        Bench.refused(x, "pairs(2000)", x.pairs(2000), 2);
    }

    private static void hubCall() {
        LinkTimes x = Bench.with(TextTest.BASE);
        Bench.good(x, "hub(0)", x.hub(0), 2);
        // From 3 on 1-5-11 changes at b and c, 1-5 at b, 3-7 at c.
        Bench.good(x, "hub(3): of several the first", x.hub(3), 1);
        Bench.good(x, "hub(53)", x.hub(53), -2);
        x.cancel(6);
        Bench.good(x, "hub(0) without 6", x.hub(0), 1);
        Bench.refused(x, "hub(-1)", x.hub(-1), 2);
        Bench.refused(x, "hub(2000)", x.hub(2000), 2);
    }

    private static void slowestCall() {
        LinkTimes x = Bench.with(TextTest.BASE);
        Bench.good(x, "slowest(0)", x.slowest(0), 28);
        Bench.good(x, "slowest(3)", x.slowest(3), 55);
        Bench.good(x, "slowest(52)", x.slowest(52), 6);
        Bench.good(x, "slowest(53)", x.slowest(53), -2);
        Bench.refused(x, "slowest(-1)", x.slowest(-1), 2);
        Bench.refused(x, "slowest(2000)", x.slowest(2000), 2);
    }
}
