import java.nio.charset.StandardCharsets;
import java.util.Random;

/**
 * Runs of calls, drawn with a fixed seed, each answer compared with the Model's (promises 1 to 46
 * together): on small desks, on wide ones with few ways, on dense ones with very many; and texts with
 * something wrong in them (promises 3, 4, 5).
 */
public final class RandomRunsTest {
    private static final int RUNS = 8500;
    private static final int DENSE_RUNS = 50;
    private static final int CALLS = 140;
    private static final int TEXTS = 30000;
    private static final int MOST_SMALL = 13;
    /** Times far from one another; near, so that many are alike; up to all that there is room for; with long waits. */
    private static final int FAR_TIMES = 0;
    private static final int NEAR_TIMES = 1;
    private static final int WIDE = 2;
    private static final int DENSE = 3;

    /** Calls with the sorts of their numbers: see number(). */
    private static final String[] CALLS_OF_THE_FACE = {
        "fault", "where", "about w", "spot s w", "departure d w", "ordered d",
        "arrives s s t", "changes s s t", "leaves s s t", "rides s s t", "ride s s t i", "stands s s t",
        "trades s s t", "trade s s t i w", "within s s t k",
        "latest s s t", "reach s t t", "farthest s t", "meets s s t", "round s s t y",
        "steps s s", "step s s i w", "quickest s s", "spent s s t t", "others s s t", "other s s t i",
        "pairs t", "hub t", "slowest t",
        "needs s s t r", "vital s s t", "slack s s t r", "why s s t i",
        "cancel d", "run c", "delay d v", "change s v", "hold s h", "extra l s s t v", "undo",
        "still i", "size w", "trouble",
    };

    private final Random random;
    private final int sort;
    private int spots;
    private int departures;

    private RandomRunsTest(long seed, int sort) {
        random = new Random(seed);
        this.sort = sort;
    }

    public static void main(String[] args) throws ReflectiveOperationException {
        for (int run = 0; run < RUNS; run++) {
            // The WideModel is held against the class on small desks too, where the Model is its measure.
            Model model = run % 20 < 2 ? new WideModel() : new Model();
            new RandomRunsTest(run, run % 10 == 9 ? WIDE : run % 2).compareRun("run " + run, model);
        }
        for (int run = 0; run < DENSE_RUNS; run++) {
            new RandomRunsTest(run, DENSE).compareRun("dense run " + run, new WideModel());
        }
        new RandomRunsTest(4711, FAR_TIMES).compareTexts();
        Bench.end("RandomRunsTest");
    }

    private void compareRun(String name, Model model) throws ReflectiveOperationException {
        Twins twins = new Twins(name, model);
        for (int i = 0; i < CALLS; i++) {
            if (i == 3 || random.nextInt(40) == 0) {
                String text = deskText();
                twins.desk(text, text.length());
                departures = twins.model.count();
                continue;
            }
            String[] call = CALLS_OF_THE_FACE[random.nextInt(CALLS_OF_THE_FACE.length)].split(" ");
            if (!isTooMuch(call[0], twins.model.count())) {
                compareCall(twins, call);
            }
        }
    }

    /** The Model writes all WAYS out: more departures, or long waits among many, would keep it too long. */
    private boolean isTooMuch(String call, int count) {
        switch (sort) {
            case DENSE:
                return false;
            case WIDE:
                return call.equals("hold");
            default:
                return call.equals("extra") && count >= MOST_SMALL;
        }
    }

    private void compareCall(Twins twins, String[] call) throws ReflectiveOperationException {
        int[] numbers = new int[call.length - 1];
        for (int i = 0; i < numbers.length; i++) {
            numbers[i] = drawn(twins.model, call[i + 1], numbers);
        }
        twins.ask(call[0], numbers);
    }

    private int drawn(Model model, String ofSort, int[] ahead) {
        switch (ofSort) {
            case "r":
                return ridden(model, ahead);
            case "c":
                int cancelled = model.firstCancelled();
                return cancelled == Model.NONE || random.nextInt(4) == 0 ? number("d") : cancelled;
            default:
                return number(ofSort);
        }
    }

    /** A departure, mostly one that the BEST WAY between the numbers ahead of it rides. */
    private int ridden(Model model, int[] n) {
        int rides = model.rides(n[0], n[1], n[2]);
        if (rides < 1 || random.nextInt(4) == 0) {
            return number("d");
        }
        return model.ride(n[0], n[1], n[2], random.nextInt(rides));
    }

    /** A number of a sort, mostly one that fits. */
    private int number(String ofSort) {
        if (random.nextInt(80) == 0) {
            int[] wild = {-3, -2, -1, 0, 99, 100, 999, 1000, 1999, 2000, Integer.MAX_VALUE, Integer.MIN_VALUE};
            return wild[random.nextInt(wild.length)];
        }
        switch (ofSort) {
            case "s":
                return random.nextInt(40) == 0 ? spots : random.nextInt(Math.max(spots, 1));
            case "d":
                return random.nextInt(departures + 2);
            case "t":
                int[] usual = {30, 7, 900, 60};
                return random.nextInt(20) == 0 ? random.nextInt(2002) - 1 : random.nextInt(usual[sort]);
            case "w":
                return random.nextInt(3) == 0 ? random.nextInt(10) - 1 : random.nextInt(3);
            case "i":
                return random.nextInt(4) == 0 ? random.nextInt(6) - 1 : random.nextInt(2);
            case "k":
                return random.nextInt(4) == 0 ? random.nextInt(24) - 1 : random.nextInt(3);
            case "l":
                return random.nextInt(4);
            case "v":
                return random.nextInt(8) == 0 ? random.nextInt(103) - 1 : random.nextInt(4);
            case "h":
                return random.nextInt(8) == 0 ? random.nextInt(1003) - 2 : random.nextInt(10) - 1;
            default:
                return random.nextInt(sort == WIDE ? 200 : 10);
        }
    }

    private String deskText() {
        return sort == DENSE ? denseText() : sort == WIDE ? wideText() : smallText();
    }

    /**
     * Many departures that leave one soon behind the other, between few spots or many, by few lines or many;
     * of some desks all times are multiples of a number, so that many ways are alike.
     */
    private String denseText() {
        spots = 3 + random.nextInt(8);
        int lines = 1 + random.nextInt(8);
        int beat = 1 + random.nextInt(4);
        int span = beat * (20 + random.nextInt(30));
        StringBuilder text = new StringBuilder("desk span ").append(span);
        for (int s = 0; s < spots; s++) {
            text.append(";spot ").append((char) ('a' + s)).append(" change ").append(beat * random.nextInt(3));
            if (random.nextInt(3) == 0) {
                text.append(" wait ").append(random.nextInt(30));
            }
        }
        for (int l = 0; l < lines; l++) {
            text.append(";line ").append((char) ('p' + l));
        }
        boolean slowRing = random.nextBoolean();
        for (int k = 0; k < 12; k++) {
            // A ring at first, so that one comes to each spot; then links between any two.
            boolean ring = k < spots;
            int a = ring ? k : random.nextInt(spots);
            int b = (a + 1 + (ring ? 0 : random.nextInt(spots - 1))) % spots;
            int takes = beat * (slowRing && ring ? 4 + random.nextInt(4) : 1 + random.nextInt(3));
            int every = beat * ((span / beat + 8) / 9 + random.nextInt(2));
            text.append(";link ").append((char) ('p' + (slowRing && ring ? 0 : random.nextInt(lines))));
            text.append(" ").append((char) ('a' + a)).append(" ").append((char) ('a' + b));
            text.append(" from ").append(beat * random.nextInt(4)).append(" till ").append(span - random.nextInt(9));
            text.append(" every ").append(every).append(" takes ").append(takes);
        }
        return text.toString();
    }

    /** As many departures as there is room for, with waits so short that there are few WAYS. */
    private String wideText() {
        spots = 8 + random.nextInt(3);
        StringBuilder text = new StringBuilder("desk span 999");
        for (int s = 0; s < spots; s++) {
            text.append(";spot ").append((char) ('a' + s)).append(" change ").append(random.nextInt(20));
            text.append(" wait ").append(random.nextInt(70));
        }
        for (int l = 0; l < 8; l++) {
            text.append(";line ").append((char) ('p' + l));
        }
        for (int k = 0; k < 12; k++) {
            int a = random.nextInt(spots);
            int b = (a + 1 + random.nextInt(spots - 1)) % spots;
            text.append(";link ").append((char) ('p' + random.nextInt(8)));
            text.append(" ").append((char) ('a' + a)).append(" ").append((char) ('a' + b));
            text.append(" from ").append(random.nextInt(99)).append(" till ").append(980 + random.nextInt(20));
            text.append(" every ").append(99 + random.nextInt(4)).append(" takes ").append(1 + random.nextInt(99));
        }
        return text.toString();
    }

    /** A desk of few departures: all WAYS can be written out. */
    private String smallText() {
        boolean near = sort == NEAR_TIMES;
        spots = 2 + random.nextInt(4);
        int lines = 1 + random.nextInt(3);
        StringBuilder text = new StringBuilder("desk span 40");
        for (int s = 0; s < spots; s++) {
            text.append(";spot s").append((char) ('a' + s));
            text.append(" change ").append(random.nextInt(near ? 2 : 4));
            if (random.nextInt(near ? 5 : 2) == 0) {
                text.append(" wait ").append(random.nextInt(near ? 4 : 12));
            }
        }
        for (int l = 0; l < lines; l++) {
            text.append(";line l").append((char) ('a' + l));
        }
        int room = MOST_SMALL - 2;
        int links = near ? 5 + random.nextInt(7) : random.nextInt(9);
        for (int k = 0; k < links && room > 0; k++) {
            int a = random.nextInt(spots);
            int b = (a + 1 + random.nextInt(spots - 1)) % spots;
            int from = random.nextInt(near ? 8 : 26);
            int n = 1 + random.nextInt(Math.min(room, near ? 2 : 3));
            int every = 1 + random.nextInt(near ? 2 : 5);
            room -= n;
            text.append(";link l").append((char) ('a' + random.nextInt(lines)));
            text.append(" s").append((char) ('a' + a)).append(" s").append((char) ('a' + b));
            text.append(" from ").append(from).append(" till ").append(from + (n - 1) * every);
            text.append(" every ").append(every).append(" takes ").append(1 + random.nextInt(near ? 3 : 7));
        }
        return text.toString();
    }

    /** Texts with one or two places changed: a byte, a token, a part that is gone or comes twice. */
    private void compareTexts() throws ReflectiveOperationException {
        Twins twins = new Twins("texts");
        for (int i = 0; i < TEXTS; i++) {
            if (i % 8 == 0) {
                twins = new Twins("texts from " + i);
            }
            String text = random.nextInt(3) == 0 ? fullText() : deskText();
            for (int k = random.nextInt(3); k >= 0; k--) {
                text = spoil(text);
            }
            byte[] bytes = text.getBytes(StandardCharsets.ISO_8859_1);
            text = new String(bytes, 0, Math.min(bytes.length, 890), StandardCharsets.ISO_8859_1);
            twins.desk(text, text.length());
            for (int what = 0; what <= 5; what++) {
                twins.ask("about", what);
            }
        }
    }

    /** A text near the most that there is room for. */
    private String fullText() {
        StringBuilder text = new StringBuilder("desk span 999");
        int told = 9 + random.nextInt(3);
        for (int s = 0; s < told; s++) {
            text.append(";spot ").append((char) ('a' + s)).append(" change ").append(random.nextInt(101));
        }
        for (int l = 0; l < 7 + random.nextInt(3) - random.nextInt(2); l++) {
            text.append(";line ").append((char) ('p' + l));
        }
        int every = 60 + random.nextInt(60);
        for (int k = 0; k < 10 + random.nextInt(4); k++) {
            text.append(";link p a b from 0 till ").append(990 + random.nextInt(11));
            text.append(" every ").append(every).append(" takes 9");
        }
        return text.toString();
    }

    private String spoil(String text) {
        if (text.isEmpty()) {
            return " ";
        }
        int at = random.nextInt(text.length());
        String[] parts = {";", " ", "  ", "desk", "desk span 5", "spot", "line", "link", "wait 3", "change", "a",
            "sa", "la", "lb", "abcdefg", "abcdef", "0", "00", "100", "1000", "00005", "#", "A", "\u00e9", "\u0000"};
        String part = parts[random.nextInt(parts.length)];
        switch (random.nextInt(5)) {
            case 0:
                return text.substring(0, at) + part + text.substring(at + 1);
            case 1:
                return text.substring(0, at) + part + text.substring(at);
            case 2:
                return text.substring(0, at);
            case 3:
                return swapToken(text, part);
            default:
                int stop = Math.min(text.length(), at + 1 + random.nextInt(12));
                return text.substring(0, at) + text.substring(stop);
        }
    }

    private String swapToken(String text, String part) {
        String[] words = text.split(" ");
        if (words.length > 0) {
            words[random.nextInt(words.length)] = part;
        }
        return String.join(" ", words);
    }
}
