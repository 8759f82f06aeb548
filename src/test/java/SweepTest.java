/**
 * Every call with every row of numbers at the edges of what it takes, and beyond them, compared with
 * the Model (promises 4 to 46): without a desk, on the least one, and on one with acts behind it.
 */
public final class SweepTest {
    private static final int MIN = Integer.MIN_VALUE;
    private static final int MAX = Integer.MAX_VALUE;
    /** An object is used for at most 512 calls; each row takes up to seven of both sorts, beside the feeding. */
    private static final int ROWS_OF_ONE = 50;

    private interface Maker {
        Twins make() throws ReflectiveOperationException;
    }

    private final Maker maker;
    private Twins twins;
    private int rows = ROWS_OF_ONE;

    private SweepTest(Maker maker) {
        this.maker = maker;
    }

    /** Questions with the sorts of their numbers: see numbers(). */
    private static final String[] QUESTIONS = {
        "fault", "where", "about w", "spot s w", "departure d w", "ordered d",
        "arrives s s t", "changes s s t", "leaves s s t", "rides s s t", "ride s s t i", "stands s s t",
        "trades s s t", "trade s s t i w", "within s s t k",
        "latest s s t", "reach s t t", "farthest s t", "meets s s t", "round s s t y",
        "steps s s", "step s s i w", "quickest s s", "spent s s t t", "others s s t", "other s s t i",
        "pairs t", "hub t", "slowest t",
        "needs s s t d", "vital s s t", "slack s s t d", "why s s t i", "still d", "size w", "trouble",
    };
    private static final String[] ACTS = {
        "cancel d", "run d", "delay d v", "change s v", "hold s h", "extra l s s m v",
    };

    public static void main(String[] args) throws ReflectiveOperationException {
        new SweepTest(() -> new Twins("no desk")).sweep();
        new SweepTest(() -> told("a fault alone", "desk span 9;spot a change 0;", 0)).sweep();
        new SweepTest(() -> told("the least desk", "desk span 1;spot a change 0", 0)).sweep();
        new SweepTest(() -> told("as told", Edges.DESK, Edges.DEPARTURES)).sweep();
        new SweepTest(SweepTest::acted).sweep();
        Bench.end("SweepTest");
    }

    private static Twins told(String name, String text, int departures) {
        Twins twins = new Twins(name);
        twins.desk(text, text.length());
        Bench.due("departures of " + name, twins.model.count(), departures);
        return twins;
    }

    /** Late ones, cancelled ones, ones that came besides; other CHANGE and WAIT; as late as can be. */
    private static Twins acted() throws ReflectiveOperationException {
        Twins twins = told("with acts", "desk span 999;spot a change 5;spot b change 0 wait 9;spot c change 0;spot d change 1;"
                + "spot e change 9;line r;line g;link r a b from 0 till 999 every 333 takes 10;"
                + "link g b c from 15 till 15 every 1 takes 99;link r c d from 999 till 999 every 1 takes 99", 6);
        twins.ask("delay", 5, 99);
        twins.ask("delay", 0, 1);
        twins.ask("cancel", 1);
        twins.ask("extra", 1, 3, 0, 999, 99);
        twins.ask("hold", 1, 10);
        twins.ask("change", 1, 4);
        twins.ask("delay", 6, 50);
        twins.ask("extra", 0, 1, 2, 21, 1);
        return twins;
    }

    private void sweep() throws ReflectiveOperationException {
        for (String question : QUESTIONS) {
            String[] call = question.split(" ");
            askAll(call, new int[call.length - 1], 0);
        }
        for (String act : ACTS) {
            String[] call = act.split(" ");
            askAll(call, new int[call.length - 1], 0);
        }
    }

    private void askAll(String[] call, int[] row, int at) throws ReflectiveOperationException {
        if (at == row.length) {
            ask(call[0], row);
            return;
        }
        for (int number : numbers(call[at + 1])) {
            row[at] = number;
            askAll(call, row, at + 1);
        }
    }

    private void ask(String call, int[] row) throws ReflectiveOperationException {
        if (rows >= ROWS_OF_ONE) {
            twins = maker.make();
            rows = 0;
        }
        rows++;
        int kept = twins.model.size(1);
        twins.ask(call, row);
        // Each act that was one is undone, so that all are asked of the same desk.
        if (twins.model.size(1) > kept) {
            twins.ask("size", 1);
            twins.ask("size", 2);
            twins.ask("about", 4);
            twins.ask("about", 5);
            twins.ask("undo");
        }
    }

    private static int[] numbers(String ofSort) {
        switch (ofSort) {
            case "s":
                return new int[] {MIN, -2, -1, 0, 1, 2, 3, 4, 5, 10, MAX};
            case "d":
                return new int[] {MIN, -1, 0, 1, 5, 7, 8, 119, 120, MAX};
            case "t":
                return new int[] {MIN, -1, 0, 1, 11, 50, 51, 70, 71, 999, 1098, 1099, 1999, 2000, MAX};
            case "m":
                return new int[] {MIN, -1, 0, 1, 2, 100, 101, 999, 1000, MAX};
            case "i":
                return new int[] {MIN, -1, 0, 1, 2, 3, 4, 5, MAX};
            case "w":
                return new int[] {MIN, -1, 0, 1, 2, 3, 4, 5, 6, 7, 8, MAX};
            case "k":
                return new int[] {MIN, -1, 0, 1, 2, 20, 21, MAX};
            case "y":
                return new int[] {MIN, -1, 0, 1, 999, 1000, MAX};
            case "l":
                return new int[] {MIN, -1, 0, 1, 2, 8, MAX};
            case "v":
                return new int[] {MIN, -1, 0, 1, 98, 99, 100, MAX};
            default:
                return new int[] {MIN, -2, -1, 0, 1, 998, 999, 1000, MAX};
        }
    }
}
