import java.nio.charset.StandardCharsets;
import java.util.NoSuchElementException;

/** What the tests share: feeding a text, comparing answers, counting what is wrong. */
final class Bench {
    private static int checks = 0;
    private static int wrong = 0;
    private static String subject = "";

    private Bench() {
    }

    /** What the answers that follow are about, told with each that is wrong. */
    static void subject(String words) {
        subject = words.isEmpty() ? "" : words + ": ";
    }

    /** Puts a text on the tape, filled up with blanks to the next twenty bytes. */
    static void put(LinkTimes x, String text) {
        byte[] bytes = text.getBytes(StandardCharsets.ISO_8859_1);
        for (int at = 0; at < bytes.length; at += 20) {
            x.feed(number(bytes, at), number(bytes, at + 4), number(bytes, at + 8),
                    number(bytes, at + 12), number(bytes, at + 16));
        }
    }

    private static int number(byte[] bytes, int at) {
        int number = 0;
        for (int i = at; i < at + 4; i++) {
            number = number << 8 | (i < bytes.length ? bytes[i] & 255 : 32);
        }
        return number;
    }

    /** Tells a desk: what desk() answers. */
    static int tell(LinkTimes x, String text) {
        put(x, text);
        return x.desk(text.length());
    }

    /** A new object with a desk that must be good. */
    static LinkTimes with(String text) {
        LinkTimes x = new LinkTimes();
        if (tell(x, text) == LinkTimes.NONE) {
            due("desk of a good text: " + text, -x.fault(), 0);
        }
        return x;
    }

    static void due(String call, long got, long want) {
        checks++;
        if (got != want) {
            wrong++;
            System.out.println(subject + call + " answered " + got + ", due is " + want);
        }
    }

    static void due(String call, boolean got, boolean want) {
        due(call, got ? 1 : 0, want ? 1 : 0);
    }

    /** An answer that is no refusal. */
    static void good(LinkTimes x, String call, int got, int want) {
        due(call, got, want);
        due("trouble() behind " + call, x.trouble(), 0);
    }

    /** A refusal with its number. */
    static void refused(LinkTimes x, String call, int got, int trouble) {
        due(call, got, LinkTimes.NONE);
        due("trouble() behind " + call, x.trouble(), trouble);
    }

    /** A text that is no desk. */
    static void faulty(String text, int fault, int place) {
        LinkTimes x = new LinkTimes();
        String call = "desk of '" + text + "'";
        refused(x, call, tell(x, text), 4);
        due("fault() behind " + call, x.fault(), fault);
        due("where() behind " + call, x.where(), place);
    }

    /** The answer of still(), or -9 for its exception. */
    static int still(LinkTimes x, int i) {
        try {
            return x.still(i);
        } catch (NoSuchElementException none) {
            return -9;
        }
    }

    /** Ends a test: exit code 1 if an answer was not as due. */
    static void end(String name) {
        System.out.println(name + ": " + checks + " answers looked at, " + wrong + " not as due");
        if (wrong > 0 || checks == 0) {
            System.exit(1);
        }
    }
}
