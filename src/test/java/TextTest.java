/** Promises 1 to 9 and 44 to 46: a new object, the tape, the text and its faults, what is told of a desk. */
public final class TextTest {
    static final String BASE = "desk span 60;spot a change 3;spot b change 2;spot c change 0 wait 5;"
            + "spot d change 1;spot e change 0;line r;line g;"
            + "link r a b from 0 till 40 every 20 takes 5;" // 0 .. 2
            + "link g b c from 6 till 46 every 20 takes 4;" // 3 .. 5
            + "link g a c from 2 till 2 every 1 takes 20;" // 6
            + "link r c d from 12 till 52 every 10 takes 6"; // 7 .. 11

    private static final String HEAD = "desk span 60;";
    private static final String TWO = "desk span 60;spot a change 3;spot b change 2;line r;";

    public static void main(String[] args) {
        newObject();
        tape();
        deskCall();
        deskStays();
        faultAndWhere();
        form();
        formOfLinks();
        untoldAndAgain();
        bounds();
        many();
        manyDepartures();
        lacks();
        goodTexts();
        about();
        spotCall();
        departureCall();
        orderedCall();
        stillCall();
        sizeCall();
        troubleCall();
        Bench.end("TextTest");
    }

    private static void newObject() {
        LinkTimes x = new LinkTimes();
        Bench.due("trouble() of a new object", x.trouble(), 0);
        Bench.due("fault() of a new object", x.fault(), 0);
        Bench.due("where() of a new object", x.where(), -1);
        for (int what = 0; what <= 2; what++) {
            Bench.due("size of a new object", x.size(what), 0);
        }
        Bench.refused(x, "about(1) of a new object", x.about(1), 1);
        Bench.refused(x, "spot(0, 0) of a new object", x.spot(0, 0), 1);
        Bench.refused(x, "pairs(0) of a new object", x.pairs(0), 1);
        Bench.refused(x, "hub(-1) of a new object", x.hub(-1), 1);
        Bench.refused(x, "slowest(0) of a new object", x.slowest(0), 1);
        Bench.refused(x, "change(0, 500) of a new object", x.change(0, 500), 1);
        Bench.due("still(0) of a new object", Bench.still(x, 0), -9);
    }

    private static void tape() {
        LinkTimes x = new LinkTimes();
        for (int i = 1; i <= 45; i++) {
            Bench.due("feed " + i, x.feed(0, 0, 0, 0, 0), 20 * i);
        }
        Bench.due("feed beyond 900", x.feed(0, 0, 0, 0, 0), -1);
        Bench.due("size(0) of a full tape", x.size(0), 900);
        Bench.due("trouble() behind a feed for which there is no room", x.trouble(), 0);
        Bench.refused(x, "desk(901)", x.desk(901), 2);
        Bench.refused(x, "desk(900) of noughts", x.desk(900), 4);
        Bench.due("size(0) behind desk()", x.size(0), 0);
        // Of each number the highest byte comes first, and the numbers come in their order.
        x.feed(0x6465736b, 0x20737061, 0x6e20373b, 0x73706f74, 0x20612063);
        x.feed(0x68616e67, 0x65203120, 0x77616974, 0x20390000, 0xffffffff);
        Bench.good(x, "desk of 'desk span 7;spot a change 1 wait 9'", x.desk(34), 0);
        Bench.due("about(0)", x.about(0), 7);
        Bench.due("spot(0, 1)", x.spot(0, 1), 9);
    }

    private static void deskCall() {
        LinkTimes x = new LinkTimes();
        Bench.put(x, "desk span 5;spot a change 0;line r;");
        Bench.refused(x, "desk(-1)", x.desk(-1), 2);
        Bench.refused(x, "desk(41)", x.desk(41), 2);
        Bench.due("size(0): the tape stays", x.size(0), 40);
        Bench.due("fault() behind a desk() refused by 2", x.fault(), 0);
        Bench.good(x, "desk(34): the first bytes alone", x.desk(34), 0);
        Bench.due("size(0): the tape is empty then", x.size(0), 0);
        Bench.good(x, "desk of BASE", Bench.tell(x, TextTest.BASE), 12);
    }

    private static void deskStays() {
        LinkTimes x = Bench.with(BASE);
        x.cancel(4);
        x.delay(2, 7);
        Bench.refused(x, "desk of a faulty text", Bench.tell(x, "desk span 5;spot z change 1;spot"), 4);
        Bench.due("about(0) stays", x.about(0), 60);
        Bench.due("about(1) stays", x.about(1), 5);
        Bench.due("about(5) stays", x.about(5), 11);
        Bench.due("departure(2, 5) stays", x.departure(2, 5), 7);
        Bench.due("size(1) stays", x.size(1), 2);
        Bench.due("undo() behind it", x.undo(), true);
        Bench.due("departure(2, 5) undone", x.departure(2, 5), 0);
        Bench.good(x, "desk of BASE again", Bench.tell(x, BASE), 12);
        Bench.due("size(1): nothing to undo", x.size(1), 0);
        Bench.due("undo() in a new desk", x.undo(), false);
        Bench.due("about(5) of a new desk", x.about(5), 12);
    }

    private static void faultAndWhere() {
        LinkTimes x = new LinkTimes();
        Bench.tell(x, "desk span 60;line line");
        Bench.due("fault()", x.fault(), 1);
        Bench.due("where()", x.where(), 18);
        Bench.due("where() again", x.where(), 18);
        x.feed(0, 0, 0, 0, 0);
        x.size(0);
        Bench.due("where() behind calls that can't be refused", x.where(), 18);
        x.about(0);
        Bench.due("where() behind a call refused by 1", x.where(), -1);
        Bench.due("fault() behind it", x.fault(), 1);
        x.desk(77);
        Bench.due("fault() behind desk() refused by 2", x.fault(), 1);
        x.desk(0);
        Bench.due("where() of no text", x.where(), 0);
        Bench.tell(x, BASE);
        Bench.due("fault() behind a good one", x.fault(), 0);
        Bench.due("where() behind a good one", x.where(), -1);
    }

    private static void form() {
        Bench.faulty("", 1, 0);
        Bench.faulty("   ", 1, 3);
        Bench.faulty(";", 1, 0);
        Bench.faulty("7", 1, 0);
        Bench.faulty("tram", 1, 0);
        Bench.faulty("desk", 1, 4);
        Bench.faulty("desk 60", 1, 5);
        Bench.faulty("desk spam 60", 1, 5);
        Bench.faulty("desk span", 1, 9);
        Bench.faulty("desk span x", 1, 10);
        Bench.faulty("desk span 60 60", 1, 13);
        Bench.faulty("desk span 60 spot a change 1", 1, 13);
        Bench.faulty("desk span 60;", 1, 13);
        Bench.faulty("desk span 60;  ", 1, 15);
        Bench.faulty("desk span 60;;", 1, 13);
        Bench.faulty("desk span 60;Spot a change 1", 1, 13);
        Bench.faulty("desk span 60;stop a change 1", 1, 13);
        Bench.faulty("desk span 60.", 1, 12);
        Bench.faulty("desk span 00060;spot a change 1", 1, 10);
        Bench.faulty("desk\tspan 60", 1, 4);
        Bench.faulty("desk span 60;spot abcdefg change 1", 1, 18);
        Bench.faulty("desk span 60;spot 7 change 1", 1, 18);
        Bench.faulty("desk span 60;spot ; change 1", 1, 18);
        Bench.faulty("desk span 60;spot \u00e9 change 1", 1, 18);
        Bench.faulty("desk span 60;spot a change", 1, 26);
        Bench.faulty("desk span 60;spot a changes 1", 1, 20);
        Bench.faulty("desk span 60;spot a wait 1", 1, 20);
        Bench.faulty("desk span 60;spot a change 1 wait", 1, 33);
        Bench.faulty("desk span 60;spot a change 1 wait 2 wait 3", 1, 36);
        Bench.faulty("desk span 60;spot a change -1", 1, 27);
        for (String word : new String[] {"desk", "spot", "line", "link"}) {
            Bench.faulty(HEAD + "spot " + word + " change 1", 1, 18);
            Bench.faulty(HEAD + "line " + word, 1, 18);
            Bench.faulty(TWO + "link " + word, 1, 57);
        }
    }

    private static void formOfLinks() {
        String link = TWO + "link r a b from 1 till 9 every 4 takes 2";
        Bench.due("departures of a link", Bench.tell(new LinkTimes(), link), 3);
        // Without one token the next one is what is wrong: mostly by form, where a name is due as untold.
        String[] parts = "link r a b from 1 till 9 every 4 takes 2".split(" ");
        int[] faults = {1, 2, 2, 2, 1, 1, 1, 1, 1, 1, 1, 1};
        for (int k = 0; k < parts.length; k++) {
            StringBuilder text = new StringBuilder(TWO);
            int place = TWO.length();
            for (int i = 0; i < parts.length; i++) {
                if (i == k) {
                    place = text.length();
                } else {
                    text.append(parts[i]).append(i < parts.length - 1 ? " " : "");
                }
            }
            // 'link r b from': b does for the first spot, so that it is met at the word behind it.
            boolean oneLater = k == 2;
            Bench.faulty(text.toString(), faults[k], oneLater ? place + 2 : place);
        }
        Bench.faulty(link + " 3", 1, link.length() + 1);
        Bench.faulty(link + "; ", 1, link.length() + 2);
    }

    private static void untoldAndAgain() {
        Bench.faulty(TWO + "link x", 2, 57);
        Bench.faulty(TWO + "link a", 2, 57);
        Bench.faulty(TWO + "link r x", 2, 59);
        Bench.faulty(TWO + "link r r", 2, 59);
        Bench.faulty(TWO + "link r a x", 2, 61);
        Bench.faulty(TWO + "link r a r", 2, 61);
        Bench.faulty(TWO + "link r a a", 3, 61);
        Bench.faulty(TWO + "spot a", 3, 57);
        Bench.faulty(TWO + "spot r", 3, 57);
        Bench.faulty(TWO + "line b", 3, 57);
        Bench.faulty(TWO + "line r", 3, 57);
        Bench.faulty(TWO + "desk span 0", 3, 52);
        Bench.faulty("desk span 60;desk", 3, 13);
        Bench.faulty(HEAD + "link r", 2, 18);
        // A name isn't told ahead of its line.
        Bench.faulty(HEAD + "spot a change 1;line r;link r a b from 1 till 1 every 1 takes 1;spot b change 1", 2, 45);
    }

    private static void bounds() {
        Bench.faulty("desk span 0", 4, 10);
        Bench.faulty("desk span 1000", 4, 10);
        Bench.faulty(HEAD + "spot a change 100", 4, 27);
        Bench.faulty(HEAD + "spot a change 9 wait 1000", 4, 34);
        Bench.faulty(TWO + "link r a b from 61", 4, 68);
        Bench.faulty(TWO + "link r a b from 9 till 8", 4, 75);
        Bench.faulty(TWO + "link r a b from 9 till 61", 4, 75);
        Bench.faulty(TWO + "link r a b from 9 till 9 every 0", 4, 83);
        Bench.faulty(TWO + "link r a b from 9 till 9 every 1000", 4, 83);
        Bench.faulty(TWO + "link r a b from 9 till 9 every 1 takes 0", 4, 91);
        Bench.faulty(TWO + "link r a b from 9 till 9 every 1 takes 100", 4, 91);
        // The first from the left counts, whatever comes behind it.
        Bench.faulty("desk span 0 # spot", 4, 10);
    }

    private static void many() {
        StringBuilder spots = new StringBuilder("desk span 9");
        for (char c = 'a'; c <= 'j'; c++) {
            spots.append(";spot ").append(c).append(" change 0");
        }
        LinkTimes x = Bench.with(spots.toString());
        Bench.due("about(1) of ten spots", x.about(1), 10);
        Bench.faulty(spots + ";spot", 5, spots.length() + 1);
        Bench.faulty(spots + "; spot a", 5, spots.length() + 2);
        StringBuilder lines = new StringBuilder("desk span 9;spot a change 0;spot b change 0");
        for (char c = 'k'; c <= 'r'; c++) {
            lines.append(";line ").append(c);
        }
        x = Bench.with(lines.toString());
        Bench.due("about(2) of eight lines", x.about(2), 8);
        Bench.faulty(lines + ";line", 5, lines.length() + 1);
        StringBuilder links = new StringBuilder("desk span 9;spot a change 0;spot b change 0;line r");
        for (int i = 0; i < 12; i++) {
            links.append(";link r a b from 0 till 9 every 1 takes 1");
        }
        x = Bench.with(links.toString());
        Bench.due("about(3) of twelve links", x.about(3), 12);
        Bench.due("about(4) of twelve links", x.about(4), 120);
        Bench.faulty(links + ";link", 5, links.length() + 1);
    }

    private static void manyDepartures() {
        String most = "desk span 999;spot a change 0;spot b change 0;line r;link r a b from 0 till 119 every 1 takes 1";
        LinkTimes x = Bench.with(most);
        Bench.due("about(4) of the most departures", x.about(4), 120);
        Bench.faulty(most + ";link r b a from 9 till 9 every 1", 5, most.length() + 32);
        Bench.faulty("desk span 999;spot a change 0;spot b change 0;line r;link r a b from 0 till 120 every 1", 5, 86);
        // A number out of bounds is less than one of too many.
        Bench.faulty("desk span 999;spot a change 0;spot b change 0;line r;link r a b from 0 till 999 every 0", 4, 86);
        Bench.due("every 8 till 959", Bench.tell(new LinkTimes(), "desk span 999;spot a change 0;spot b change 0;"
                + "line r;link r a b from 0 till 959 every 8 takes 1"), 120);
    }

    private static void lacks() {
        Bench.faulty("spot a change 1;desk span 60", 6, 0);
        Bench.faulty("  line r", 6, 2);
        Bench.faulty("link", 6, 0);
        Bench.faulty("desk span 60", 6, 12);
        Bench.faulty("desk span 60  ", 6, 14);
        Bench.faulty("desk span 60;line r", 6, 19);
    }

    private static void goodTexts() {
        LinkTimes x = Bench.with("  desk span 0007;spot desks change00wait 0 ; spot abcdef change 99 wait 999;"
                + "line change;line wait;line span;line from;link from desks abcdef from 0 till 7 every 999 takes 99");
        Bench.due("about(0)", x.about(0), 7);
        Bench.due("about(2)", x.about(2), 4);
        Bench.due("about(4)", x.about(4), 1);
        Bench.due("spot(0, 0)", x.spot(0, 0), 0);
        Bench.due("spot(0, 1)", x.spot(0, 1), 0);
        Bench.due("spot(1, 0)", x.spot(1, 0), 99);
        Bench.due("spot(1, 1)", x.spot(1, 1), 999);
        Bench.due("departure(0, 0)", x.departure(0, 0), 3);
        Bench.due("departure(0, 4)", x.departure(0, 4), 99);
        x = Bench.with("desk span 9;spot az change 1;spot za change 2;line z;"
                + "link z za az from 1 till 1 every 1 takes 1");
        Bench.due("departure(0, 1) of za", x.departure(0, 1), 1);
        x = Bench.with("desk span 999;line r;spot a change 1;line g;spot b change 1;"
                + "link g b a from 999 till 999 every 1 takes 1");
        Bench.due("departure(0, 1)", x.departure(0, 1), 1);
        Bench.due("departure(0, 2)", x.departure(0, 2), 0);
        Bench.due("departure(0, 3)", x.departure(0, 3), 999);
    }

    private static void about() {
        LinkTimes x = Bench.with(BASE);
        int[] want = {60, 5, 2, 4, 12, 12};
        for (int what = 0; what <= 5; what++) {
            Bench.good(x, "about(" + what + ")", x.about(what), want[what]);
        }
        Bench.refused(x, "about(-1)", x.about(-1), 1);
        Bench.refused(x, "about(6)", x.about(6), 1);
        x.cancel(3);
        x.extra(0, 4, 0, 60, 99);
        Bench.due("about(3): links told", x.about(3), 4);
        Bench.due("about(4) with one besides", x.about(4), 13);
        Bench.due("about(5) with one cancelled", x.about(5), 12);
    }

    private static void spotCall() {
        LinkTimes x = Bench.with(BASE);
        Bench.good(x, "spot(0, 0)", x.spot(0, 0), 3);
        Bench.good(x, "spot(0, 1)", x.spot(0, 1), -2);
        Bench.good(x, "spot(2, 1)", x.spot(2, 1), 5);
        Bench.good(x, "spot(0, 2)", x.spot(0, 2), 4);
        Bench.good(x, "spot(0, 3)", x.spot(0, 3), 0);
        Bench.good(x, "spot(2, 2)", x.spot(2, 2), 5);
        Bench.good(x, "spot(2, 3)", x.spot(2, 3), 4);
        x.cancel(6);
        Bench.good(x, "spot(0, 2) without 6", x.spot(0, 2), 3);
        Bench.good(x, "spot(2, 3) without 6", x.spot(2, 3), 3);
        Bench.refused(x, "spot(5, 0)", x.spot(5, 0), 1);
        Bench.refused(x, "spot(-1, 0)", x.spot(-1, 0), 1);
        Bench.refused(x, "spot(0, 4)", x.spot(0, 4), 1);
        Bench.refused(x, "spot(0, -1)", x.spot(0, -1), 1);
    }

    private static void departureCall() {
        LinkTimes x = Bench.with(BASE);
        int[] told = {1, 1, 2, 26, 30, 0, 1, 1};
        for (int what = 0; what <= 7; what++) {
            Bench.good(x, "departure(4, " + what + ")", x.departure(4, what), told[what]);
        }
        x.delay(4, 9);
        x.cancel(4);
        int[] late = {1, 1, 2, 35, 39, 9, 0, 1};
        for (int what = 0; what <= 7; what++) {
            Bench.good(x, "late: departure(4, " + what + ")", x.departure(4, what), late[what]);
        }
        x.extra(0, 4, 3, 33, 7);
        int[] extra = {0, 4, 3, 33, 40, 0, 1, -2};
        for (int what = 0; what <= 7; what++) {
            Bench.good(x, "departure(12, " + what + ")", x.departure(12, what), extra[what]);
        }
        Bench.refused(x, "departure(13, 0)", x.departure(13, 0), 1);
        Bench.refused(x, "departure(-1, 0)", x.departure(-1, 0), 1);
        Bench.refused(x, "departure(0, 8)", x.departure(0, 8), 1);
        Bench.refused(x, "departure(0, -1)", x.departure(0, -1), 1);
    }

    private static void orderedCall() {
        LinkTimes x = Bench.with(BASE);
        int[] row = {0, 6, 3, 7, 1, 8, 4, 9, 2, 10, 5, 11};
        for (int k = 0; k < row.length; k++) {
            Bench.good(x, "ordered(" + k + ")", x.ordered(k), row[k]);
        }
        Bench.refused(x, "ordered(12)", x.ordered(12), 1);
        Bench.refused(x, "ordered(-1)", x.ordered(-1), 1);
        x.delay(0, 2);
        Bench.due("ordered(0): of like ones by numbers", x.ordered(0), 0);
        Bench.due("ordered(1): of like ones by numbers", x.ordered(1), 6);
        x.delay(0, 12);
        Bench.due("ordered(2) with 0 late", x.ordered(2), 0);
        Bench.due("ordered(3) with 0 late", x.ordered(3), 7);
        x.cancel(6);
        Bench.due("ordered(0) without 6", x.ordered(0), 3);
        Bench.refused(x, "ordered(11) without 6", x.ordered(11), 1);
        x.extra(0, 0, 4, 1, 1);
        Bench.due("ordered(0) with one besides", x.ordered(0), 12);
        x.undo();
        Bench.due("ordered(0) with that undone", x.ordered(0), 3);
    }

    private static void stillCall() {
        LinkTimes x = Bench.with(BASE);
        x.about(9);
        Bench.due("still(0)", Bench.still(x, 0), 4);
        Bench.due("still(1)", Bench.still(x, 1), -9);
        Bench.due("still(-1)", Bench.still(x, -1), -9);
        Bench.due("trouble() behind still()", x.trouble(), 1);
        for (int d = 7; d <= 11; d++) {
            x.cancel(d);
        }
        Bench.due("still(0) without c to d", Bench.still(x, 0), 3);
        Bench.due("still(1) without c to d", Bench.still(x, 1), 4);
        x.extra(0, 4, 3, 1, 1);
        Bench.due("still(0) with one besides", Bench.still(x, 0), -9);
    }

    private static void sizeCall() {
        LinkTimes x = Bench.with(BASE);
        Bench.put(x, "desk");
        x.delay(3, 4);
        x.delay(5, 6);
        x.delay(5, 0);
        x.cancel(3);
        Bench.due("size(0)", x.size(0), 20);
        Bench.due("size(1)", x.size(1), 4);
        Bench.due("size(2): a cancelled one has its delay, too", x.size(2), 1);
        Bench.due("size(3)", x.size(3), -1);
        Bench.due("size(-1)", x.size(-1), -1);
        Bench.due("trouble() behind size()", x.trouble(), 0);
        x.about(9);
        x.size(0);
        Bench.due("trouble() behind size() again", x.trouble(), 1);
    }

    private static void troubleCall() {
        LinkTimes x = Bench.with(BASE);
        x.desk(1);
        Bench.due("trouble(): a number", x.trouble(), 2);
        x.feed(0, 0, 0, 0, 0);
        x.fault();
        x.where();
        Bench.due("trouble() again", x.trouble(), 2);
        x.desk(1);
        Bench.due("trouble(): a fault", x.trouble(), 4);
        x.run(0);
        Bench.due("trouble(): not so", x.trouble(), 5);
        x.arrives(4, 0, 0);
        Bench.due("trouble(): no way is no refusal", x.trouble(), 0);
        x.arrives(9, 0, -1);
        Bench.due("trouble(): the first one told", x.trouble(), 1);
        x.arrives(4, 0, -1);
        Bench.due("trouble(): the next one", x.trouble(), 2);
    }
}
