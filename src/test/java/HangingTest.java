/** Promises 33 to 36: what a way hangs on. */
public final class HangingTest {
    public static void main(String[] args) {
        needsCall();
        vitalCall();
        slackCall();
        slackGap();
        slackInBetween();
        whyCall();
        nothingStays();
        Bench.end("HangingTest");
    }

    private static void needsCall() {
        LinkTimes x = Bench.with(TextTest.BASE);
        Bench.good(x, "needs(0, 3, 0, 6)", x.needs(0, 3, 0, 6), 10);
        Bench.good(x, "needs(0, 3, 0, 8)", x.needs(0, 3, 0, 8), 10);
        Bench.good(x, "needs(0, 3, 0, 0)", x.needs(0, 3, 0, 0), 0);
        Bench.good(x, "needs(0, 3, 3, 1)", x.needs(0, 3, 3, 1), -2);
        Bench.good(x, "needs(0, 3, 21, 1)", x.needs(0, 3, 21, 1), -3);
        Bench.good(x, "needs(3, 3, 21, 1)", x.needs(3, 3, 21, 1), 0);
        x.cancel(6);
        Bench.good(x, "needs(0, 3, 0, 6) of a cancelled one", x.needs(0, 3, 0, 6), 0);
        Bench.refused(x, "needs(0, 5, 0, 0)", x.needs(0, 5, 0, 0), 1);
        Bench.refused(x, "needs(0, 3, -1, 12)", x.needs(0, 3, -1, 12), 1);
        Bench.refused(x, "needs(0, 3, 0, -1)", x.needs(0, 3, 0, -1), 1);
        Bench.refused(x, "needs(0, 3, 2000, 0)", x.needs(0, 3, 2000, 0), 2);
    }

    private static void vitalCall() {
        LinkTimes x = Bench.with(TextTest.BASE);
        Bench.good(x, "vital(0, 3, 0)", x.vital(0, 3, 0), 2);
        Bench.good(x, "vital(0, 3, 3)", x.vital(0, 3, 3), 3);
        Bench.good(x, "vital(0, 1, 0)", x.vital(0, 1, 0), 1);
        Bench.good(x, "vital(0, 3, 21)", x.vital(0, 3, 21), -2);
        Bench.good(x, "vital(2, 2, 21)", x.vital(2, 2, 21), 0);
        x.extra(0, 2, 3, 23, 5);
        Bench.good(x, "vital(0, 3, 0) with one like 8", x.vital(0, 3, 0), 1);
        Bench.refused(x, "vital(5, 3, 0)", x.vital(5, 3, 0), 1);
        Bench.refused(x, "vital(0, 3, 2000)", x.vital(0, 3, 2000), 2);
    }

    private static void slackCall() {
        LinkTimes x = Bench.with(TextTest.BASE);
        Bench.good(x, "slack(0, 3, 0, 6)", x.slack(0, 3, 0, 6), 0);
        Bench.good(x, "slack(0, 3, 0, 8)", x.slack(0, 3, 0, 8), 0);
        Bench.good(x, "slack(0, 3, 3, 1)", x.slack(0, 3, 3, 1), 19);
        Bench.good(x, "slack(0, 3, 3, 5)", x.slack(0, 3, 3, 5), 2);
        Bench.good(x, "slack(0, 3, 3, 0)", x.slack(0, 3, 3, 0), 99);
        Bench.good(x, "slack(0, 3, 21, 0)", x.slack(0, 3, 21, 0), -2);
        Bench.good(x, "slack(1, 1, 21, 0)", x.slack(1, 1, 21, 0), 99);
        x.delay(1, 4);
        Bench.good(x, "slack(0, 3, 3, 1) of a late one", x.slack(0, 3, 3, 1), 15);
        x.cancel(0);
        Bench.good(x, "slack(0, 3, 3, 0) of a cancelled one", x.slack(0, 3, 3, 0), 99);
        Bench.refused(x, "slack(0, 5, 0, 0)", x.slack(0, 5, 0, 0), 1);
        Bench.refused(x, "slack(0, 3, 2000, 12)", x.slack(0, 3, 2000, 12), 1);
        Bench.refused(x, "slack(0, 3, 0, -1)", x.slack(0, 3, 0, -1), 1);
        Bench.refused(x, "slack(0, 3, 2000, 0)", x.slack(0, 3, 2000, 0), 2);
    }

    /** A later one may fit again; what counts is that all smaller numbers fit, too. */
    private static void slackGap() {
        // 0 a-b 10..15, one waits 2 at b; 1 b-c 17..30, 2 b-c 25..30.
        LinkTimes x = Bench.with("desk span 50;spot a change 0;spot b change 0 wait 2;spot c change 0;line r;"
                + "link r a b from 10 till 10 every 1 takes 5;link r b c from 17 till 17 every 1 takes 13;"
                + "link r b c from 25 till 25 every 1 takes 5");
        Bench.good(x, "slack(0, 2, 0, 0)", x.slack(0, 2, 0, 0), 2);
        x.delay(0, 8);
        Bench.good(x, "slack(0, 2, 0, 0) with 0 late", x.slack(0, 2, 0, 0), 2);
        x.delay(0, 9);
        Bench.good(x, "slack(0, 2, 0, 0) with 0 later", x.slack(0, 2, 0, 0), 1);
        x.hold(1, 999);
        x.delay(0, 0);
        Bench.good(x, "slack(0, 2, 0, 0) with WAIT 999", x.slack(0, 2, 0, 0), 10);
        // Up to 99 ticks, though more would do.
        x = Bench.with("desk span 500;spot a change 0;spot b change 0;spot c change 0;line r;"
                + "link r a b from 10 till 10 every 1 takes 5;link r b c from 300 till 300 every 1 takes 5");
        x.delay(0, 99);
        Bench.good(x, "slack(0, 2, 0, 0) of very much", x.slack(0, 2, 0, 0), 99);
        x = Bench.with("desk span 500;spot a change 0;spot b change 0;spot c change 0;line r;"
                + "link r a b from 0 till 0 every 1 takes 1;link r b c from 99 till 99 every 1 takes 5");
        Bench.good(x, "slack(0, 2, 0, 0) of 98", x.slack(0, 2, 0, 0), 98);
        x.delay(1, 1);
        Bench.good(x, "slack(0, 2, 0, 0) of 99", x.slack(0, 2, 0, 0), 99);
    }

    /** One that leaves later may be waited for too long, or be met by one that comes later. */
    private static void slackInBetween() {
        // 0 a-b 10..15, 1 b-c 16..20, 2 c-d 50..55.
        String text = "desk span 60;spot a change 0;spot b change 0 wait 3;spot c change 0;spot d change 0;line r;"
                + "link r a b from 10 till 10 every 1 takes 5;link r b c from 16 till 16 every 1 takes 4;"
                + "link r c d from 50 till 50 every 1 takes 5";
        LinkTimes x = Bench.with(text);
        Bench.good(x, "slack(0, 3, 0, 1): WAIT ahead of it", x.slack(0, 3, 0, 1), 2);
        Bench.good(x, "slack(0, 3, 0, 0)", x.slack(0, 3, 0, 0), 1);
        // 3 a-b 17..19 meets it, from when on 0 can't any more; then 50 is the end.
        x.extra(0, 0, 1, 17, 2);
        Bench.good(x, "slack(0, 3, 0, 1) with a later one to meet it", x.slack(0, 3, 0, 1), 6);
        x.hold(1, 14);
        Bench.good(x, "slack(0, 3, 0, 1) with WAIT 14", x.slack(0, 3, 0, 1), 17);
        x.hold(1, -1);
        Bench.good(x, "slack(0, 3, 0, 1) with any WAIT", x.slack(0, 3, 0, 1), 30);
    }

    private static void whyCall() {
        LinkTimes x = Bench.with(TextTest.BASE);
        reasons(x, 0, 3, 0, 0);
        reasons(x, 3, 3, 0, 0);
        reasons(x, 0, 3, 21, 2);
        reasons(x, 0, 3, 41, 3);
        reasons(x, 0, 4, 0, 4);
        x.cancel(1);
        reasons(x, 0, 3, 3, 1);
        x.run(1);
        x.delay(1, 99);
        reasons(x, 0, 3, 3, 1);
        x.undo();
        // WAIT of c, and CHANGE of b, are the cause alone.
        x.hold(2, 1);
        reasons(x, 0, 3, 3, 2);
        x.hold(2, 2);
        x.change(1, 22);
        reasons(x, 0, 3, 3, 2);
        // A departure that came besides is one of all.
        x.extra(0, 0, 4, 50, 1);
        x.cancel(12);
        reasons(x, 0, 4, 0, 1);
        // Through the first SPOT of all; CHANGE 0 is just enough there.
        x = Bench.with("desk span 60;spot a change 1;spot b change 1;spot c change 1;line r;line g;"
                + "link r b a from 1 till 1 every 1 takes 4;link g a c from 5 till 5 every 1 takes 4");
        reasons(x, 1, 2, 0, 2);
        x.change(0, 0);
        reasons(x, 1, 2, 0, 0);
        x.delay(1, 1);
        x.hold(0, 0);
        reasons(x, 1, 2, 0, 1);
        x = Bench.with("desk span 60;spot a change 1 wait 3;spot b change 1;spot c change 1;line r;"
                + "link r b a from 1 till 1 every 1 takes 4;link r a c from 9 till 9 every 1 takes 4");
        reasons(x, 1, 2, 0, 2);
        reasons(x, 1, 2, 2, 3);
        x = Bench.with(TextTest.BASE);
        Bench.refused(x, "why(0, 5, 0, 0)", x.why(0, 5, 0, 0), 1);
        Bench.refused(x, "why(5, 0, 0, -1)", x.why(5, 0, 0, -1), 1);
        Bench.refused(x, "why(0, 3, 2000, 0)", x.why(0, 3, 2000, 0), 2);
        Bench.refused(x, "why(0, 3, 0, -1)", x.why(0, 3, 0, -1), 2);
    }

    private static void reasons(LinkTimes x, int a, int b, int t, int many) {
        for (int i = 0; i < 6; i++) {
            Bench.good(x, "why(" + a + ", " + b + ", " + t + ", " + i + ")", x.why(a, b, t, i), i < many ? i + 1 : 0);
        }
    }

    /** These questions leave the desk as it is. */
    private static void nothingStays() {
        LinkTimes x = Bench.with(TextTest.BASE);
        x.cancel(9);
        x.delay(10, 3);
        x.needs(0, 3, 0, 6);
        x.vital(0, 3, 0);
        x.slack(0, 3, 3, 1);
        x.why(0, 4, 0, 3);
        x.others(0, 3, 0);
        Bench.due("about(5)", x.about(5), 11);
        Bench.due("departure(1, 3)", x.departure(1, 3), 20);
        Bench.due("departure(9, 6)", x.departure(9, 6), 0);
        Bench.due("departure(10, 5)", x.departure(10, 5), 3);
        Bench.due("spot(2, 1)", x.spot(2, 1), 5);
        Bench.due("size(1)", x.size(1), 2);
        Bench.due("arrives(0, 3, 0)", x.arrives(0, 3, 0), 28);
    }
}
