import java.io.IOException;
import java.nio.charset.StandardCharsets;
import java.nio.file.Files;
import java.nio.file.Path;
import java.util.ArrayList;
import java.util.Arrays;
import java.util.List;

/**
 * What the tests of single sentences share. Each test begins with of(), which names the promise
 * (TERMS: ahead of them all) and the sentence's own words; the end finds words of the document
 * that no test has named, so that no sentence is forgotten.
 */
final class Edges {
    static final int TERMS = 0;
    private static final Path DOCUMENT = Path.of("../shared/DOC.md");
    private static final int[] NO_NUMBERS = {Integer.MIN_VALUE, Integer.MAX_VALUE};

    /** By promise the words that tests have named. */
    private static final List<List<String>> NAMED = new ArrayList<>();

    /**
     * Departures 0 .. 2 r a-b 10..20, 30..40, 50..60; 3 .. 5 g b-c 25..30, 45..50, 65..70;
     * 6 r b-c 60..100; 7 g c-d 70..100. At b one changes in 5 just in time; from 1 to 6 one waits 20.
     */
    static final String DESK = "desk span 100;spot a change 5;spot b change 5 wait 20;spot c change 0;"
            + "spot d change 0 wait 0;spot e change 9;line r;line g;"
            + "link r a b from 10 till 50 every 20 takes 10;link g b c from 25 till 65 every 20 takes 5;"
            + "link r b c from 60 till 60 every 1 takes 40;link g c d from 70 till 70 every 1 takes 30";
    static final int A = 0;
    static final int B = 1;
    static final int C = 2;
    static final int D = 3;
    static final int E = 4;
    static final int SPOTS = 5;
    static final int DEPARTURES = 8;
    static final int LAST_TIME = 1999;

    interface One {
        int of(int number);
    }

    private Edges() {
    }

    /** Begins the test of a sentence. */
    static void of(int promise, String words) {
        while (NAMED.size() <= promise) {
            NAMED.add(new ArrayList<>());
        }
        NAMED.get(promise).add(plain(words));
        Bench.subject(promise == TERMS ? "terms, '" + words + "'" : "promise " + promise + ", '" + words + "'");
    }

    static LinkTimes desk() {
        return Bench.with(DESK);
    }

    /** A text with a mark, ^, ahead of the place where a fault is due. */
    static void fault(int number, String marked) {
        int place = marked.indexOf('^');
        Bench.faulty(marked.substring(0, place) + marked.substring(place + 1), number, place);
    }

    /** A good text, and how many departures it tells. */
    static LinkTimes fine(String text, int departures) {
        LinkTimes x = new LinkTimes();
        Bench.good(x, "desk of '" + text + "'", Bench.tell(x, text), departures);
        return x;
    }

    /** The least and the greatest number that a call takes; what is beyond is refused. */
    static void range(LinkTimes x, String call, int trouble, int least, int most, One ask) {
        for (int number : new int[] {least, most}) {
            ask.of(number);
            Bench.due("trouble() behind " + call + " of " + number, x.trouble(), 0);
        }
        refuses(x, call, trouble, ask, least - 1, most + 1);
    }

    /** Numbers that a call refuses, and the least and the greatest of all besides. */
    static void refuses(LinkTimes x, String call, int trouble, One ask, int... numbers) {
        for (int number : numbers) {
            Bench.refused(x, call + " of " + number, ask.of(number), trouble);
        }
        for (int number : NO_NUMBERS) {
            Bench.refused(x, call + " of " + number, ask.of(number), trouble);
        }
    }

    /** A number that is a SPOT's. */
    static void spots(LinkTimes x, String call, One ask) {
        range(x, call, 1, 0, SPOTS - 1, ask);
    }

    /** Two numbers that must be unlike SPOTS: the other one of the two stands beside each. */
    static void unlike(LinkTimes x, String call, One first, One second, One both) {
        refuses(x, call + ", the first", 1, first, -1, SPOTS);
        refuses(x, call + ", the other", 1, second, -1, SPOTS);
        refuses(x, call + ", both", 1, both, 0, 1, 2, 3, 4, 5, -1);
    }

    static void times(LinkTimes x, String call, One ask) {
        range(x, call, 2, 0, LAST_TIME, ask);
    }

    static void departures(LinkTimes x, String call, One ask) {
        range(x, call, 1, 0, DEPARTURES - 1, ask);
    }

    /** Ends a test of some promises: all their words must have been named, and be the document's. */
    static void end(String name, int first, int last) throws IOException {
        Bench.subject("the document");
        if (Files.exists(DOCUMENT)) {
            String document = Files.readString(DOCUMENT, StandardCharsets.UTF_8);
            for (int promise = first; promise <= last; promise++) {
                compare(promise, promise == TERMS ? terms(document) : wordsOf(document, promise));
            }
        }
        Bench.subject("");
        Bench.end(name);
    }

    private static String terms(String document) {
        int limit = document.indexOf("An object is used");
        int limitEnd = document.indexOf("## The public face");
        int begin = document.indexOf("## Terms");
        int ways = document.indexOf("Ahead of the calls `arrives`");
        return plain(document.substring(limit, limitEnd)
                + document.substring(begin + "## Terms".length(), document.indexOf("Ahead of the calls `feed`"))
                + document.substring(document.indexOf("---- the BEST WAY", ways), document.indexOf("\n", ways)));
    }

    private static String wordsOf(String document, int promise) {
        int head = document.indexOf("## Promise " + promise + ":");
        int begin = document.indexOf("`: ", head) + 3;
        int end = document.indexOf("\n## ", head);
        return plain(document.substring(begin, end));
    }

    private static String plain(String words) {
        return words.replace("```text", "").replace("`", "").replaceAll("\\s+", " ").trim();
    }

    private static void compare(int promise, String words) {
        boolean[] named = new boolean[words.length()];
        List<String> quotes = promise < NAMED.size() ? NAMED.get(promise) : new ArrayList<>();
        for (String quote : quotes) {
            int at = words.indexOf(quote);
            Bench.due("of promise " + promise + ", in the document: '" + quote + "'", at >= 0, true);
            for (; at >= 0; at = words.indexOf(quote, at + 1)) {
                Arrays.fill(named, at, at + quote.length(), true);
            }
        }
        StringBuilder left = new StringBuilder();
        for (int i = 0; i < words.length(); i++) {
            if (!named[i] && Character.isLetterOrDigit(words.charAt(i))) {
                left.append(words.charAt(i));
            }
        }
        Bench.due("of promise " + promise + ", without a test: '" + left + "'", left.length(), 0);
    }
}
