/** Promises 37 to 43: acts, and how they are undone. */
public final class ActsTest {
    public static void main(String[] args) {
        cancelAndRun();
        delayCall();
        changeCall();
        holdCall();
        extraCall();
        undoCall();
        undoEach();
        tenAreKept();
        Bench.end("ActsTest");
    }

    private static void cancelAndRun() {
        LinkTimes x = Bench.with(TextTest.BASE);
        Bench.good(x, "cancel(6)", x.cancel(6), 11);
        Bench.refused(x, "cancel(6) again", x.cancel(6), 5);
        Bench.good(x, "cancel(0)", x.cancel(0), 10);
        Bench.good(x, "arrives(0, 1, 0)", x.arrives(0, 1, 0), 25);
        Bench.good(x, "run(6)", x.run(6), 11);
        Bench.refused(x, "run(6) again", x.run(6), 5);
        Bench.refused(x, "run(1)", x.run(1), 5);
        Bench.refused(x, "cancel(12)", x.cancel(12), 1);
        Bench.refused(x, "cancel(-1)", x.cancel(-1), 1);
        Bench.refused(x, "run(12)", x.run(12), 1);
        Bench.refused(x, "run(-1)", x.run(-1), 1);
        Bench.due("size(1): three acts", x.size(1), 3);
    }

    private static void delayCall() {
        LinkTimes x = Bench.with(TextTest.BASE);
        Bench.good(x, "delay(0, 7)", x.delay(0, 7), 0);
        Bench.good(x, "arrives(0, 1, 0)", x.arrives(0, 1, 0), 12);
        Bench.good(x, "delay(0, 7): the same, too", x.delay(0, 7), 7);
        Bench.good(x, "delay(0, 99)", x.delay(0, 99), 7);
        Bench.good(x, "delay(0, 0)", x.delay(0, 0), 99);
        Bench.due("size(1): the same is an act, too", x.size(1), 4);
        Bench.refused(x, "delay(0, 100)", x.delay(0, 100), 2);
        Bench.refused(x, "delay(0, -1)", x.delay(0, -1), 2);
        Bench.refused(x, "delay(12, -1)", x.delay(12, -1), 1);
        Bench.due("departure(0, 5)", x.departure(0, 5), 0);
    }

    private static void changeCall() {
        LinkTimes x = Bench.with(TextTest.BASE);
        Bench.good(x, "change(1, 1)", x.change(1, 1), 2);
        Bench.good(x, "arrives(0, 2, 0)", x.arrives(0, 2, 0), 10);
        Bench.good(x, "change(1, 99)", x.change(1, 99), 1);
        Bench.good(x, "change(1, 0)", x.change(1, 0), 99);
        Bench.good(x, "change(1, 0) again", x.change(1, 0), 0);
        Bench.refused(x, "change(1, 100)", x.change(1, 100), 2);
        Bench.refused(x, "change(1, -1)", x.change(1, -1), 2);
        Bench.refused(x, "change(5, -1)", x.change(5, -1), 1);
        Bench.refused(x, "change(-1, 0)", x.change(-1, 0), 1);
        Bench.due("spot(1, 0)", x.spot(1, 0), 0);
    }

    private static void holdCall() {
        LinkTimes x = Bench.with(TextTest.BASE);
        Bench.good(x, "hold(2, 0)", x.hold(2, 0), 5);
        Bench.good(x, "arrives(1, 3, 0)", x.arrives(1, 3, 0), -2);
        Bench.good(x, "hold(2, -1)", x.hold(2, -1), 0);
        Bench.good(x, "spot(2, 1)", x.spot(2, 1), -2);
        Bench.good(x, "hold(2, 999)", x.hold(2, 999), -2);
        Bench.good(x, "hold(2, 4)", x.hold(2, 4), 999);
        Bench.refused(x, "hold(2, 1000)", x.hold(2, 1000), 2);
        Bench.refused(x, "hold(2, -2)", x.hold(2, -2), 2);
        Bench.refused(x, "hold(5, -2)", x.hold(5, -2), 1);
        Bench.refused(x, "hold(-1, 0)", x.hold(-1, 0), 1);
        Bench.due("spot(2, 1) behind refusals", x.spot(2, 1), 4);
    }

    private static void extraCall() {
        LinkTimes x = Bench.with(TextTest.BASE);
        Bench.good(x, "extra(1, 3, 4, 60, 99)", x.extra(1, 3, 4, 60, 99), 12);
        Bench.good(x, "extra(0, 3, 4, 0, 1)", x.extra(0, 3, 4, 0, 1), 13);
        Bench.good(x, "arrives(3, 4, 1)", x.arrives(3, 4, 1), 159);
        Bench.refused(x, "extra(2, 3, 4, 0, 1)", x.extra(2, 3, 4, 0, 1), 1);
        Bench.refused(x, "extra(-1, 3, 4, 0, 1)", x.extra(-1, 3, 4, 0, 1), 1);
        Bench.refused(x, "extra(0, 5, 4, 0, 1)", x.extra(0, 5, 4, 0, 1), 1);
        Bench.refused(x, "extra(0, 4, -1, 0, 1)", x.extra(0, 4, -1, 0, 1), 1);
        Bench.refused(x, "extra(0, 4, 4, -1, 1)", x.extra(0, 4, 4, -1, 1), 1);
        Bench.refused(x, "extra(0, 3, 4, -1, 1)", x.extra(0, 3, 4, -1, 1), 2);
        Bench.refused(x, "extra(0, 3, 4, 61, 1)", x.extra(0, 3, 4, 61, 1), 2);
        Bench.refused(x, "extra(0, 3, 4, 0, 0)", x.extra(0, 3, 4, 0, 0), 2);
        Bench.refused(x, "extra(0, 3, 4, 0, 100)", x.extra(0, 3, 4, 0, 100), 2);
        for (int d = 14; d < 120; d++) {
            Bench.good(x, "extra " + d, x.extra(0, 3, 4, 0, 1), d);
        }
        Bench.refused(x, "extra beyond 120", x.extra(0, 3, 4, 0, 1), 3);
        Bench.refused(x, "extra beyond 120 with a wrong number", x.extra(0, 3, 4, 0, 0), 2);
        x.undo();
        Bench.good(x, "extra for which there is room again", x.extra(0, 3, 4, 9, 1), 119);
    }

    private static void undoCall() {
        LinkTimes x = new LinkTimes();
        Bench.due("undo() without a desk", x.undo(), false);
        Bench.due("trouble() behind it", x.trouble(), 1);
        Bench.tell(x, TextTest.BASE);
        Bench.due("undo() without an act", x.undo(), false);
        Bench.due("trouble() behind it", x.trouble(), 1);
        x.cancel(3);
        x.cancel(3);
        Bench.due("undo(): a refused call is no act", x.undo(), true);
        Bench.due("trouble() behind it", x.trouble(), 0);
        Bench.due("departure(3, 6)", x.departure(3, 6), 1);
        Bench.due("undo() again", x.undo(), false);
    }

    private static void undoEach() {
        LinkTimes x = Bench.with(TextTest.BASE);
        x.cancel(3);
        x.run(3);
        x.delay(4, 5);
        x.delay(4, 6);
        x.change(0, 50);
        x.hold(2, 60);
        x.hold(0, 70);
        x.extra(0, 4, 3, 8, 9);
        x.delay(12, 44);
        x.cancel(12);
        Bench.due("size(1)", x.size(1), 10);
        x.undo();
        Bench.due("cancel undone", x.departure(12, 6), 1);
        x.undo();
        Bench.due("delay undone", x.departure(12, 5), 0);
        x.undo();
        Bench.due("extra undone", x.about(4), 12);
        Bench.refused(x, "departure(12, 0) undone", x.departure(12, 0), 1);
        x.undo();
        Bench.due("hold undone: any", x.spot(0, 1), -2);
        x.undo();
        Bench.due("hold undone", x.spot(2, 1), 5);
        x.undo();
        Bench.due("change undone", x.spot(0, 0), 3);
        x.undo();
        Bench.due("delay undone to the one ahead", x.departure(4, 5), 5);
        x.undo();
        Bench.due("delay undone to none", x.departure(4, 5), 0);
        x.undo();
        Bench.due("run undone", x.departure(3, 6), 0);
        x.undo();
        Bench.due("cancel undone at last", x.departure(3, 6), 1);
        Bench.due("size(1) at last", x.size(1), 0);
        // One that comes besides again has nothing of the one that was undone.
        x.extra(0, 4, 3, 8, 9);
        x.delay(12, 44);
        x.cancel(12);
        x.undo();
        x.undo();
        x.undo();
        Bench.good(x, "extra again", x.extra(1, 4, 2, 8, 9), 12);
        Bench.due("its delay", x.departure(12, 5), 0);
        Bench.due("it runs", x.departure(12, 6), 1);
    }

    private static void tenAreKept() {
        LinkTimes x = Bench.with(TextTest.BASE);
        for (int v = 1; v <= 13; v++) {
            x.delay(0, v);
            Bench.due("size(1) behind " + v, x.size(1), Math.min(v, 10));
        }
        for (int v = 12; v >= 3; v--) {
            Bench.due("undo()", x.undo(), true);
            Bench.due("departure(0, 5) undone", x.departure(0, 5), v);
        }
        Bench.due("undo() of the eleventh", x.undo(), false);
        Bench.due("departure(0, 5) at last", x.departure(0, 5), 3);
    }
}
