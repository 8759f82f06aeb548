/** Term I, sentence by sentence: the text of a desk and its faults. Called by EdgesOfTermsTest. */
final class EdgesOfText {
    private static final String HEAD = "desk span 60;";
    private static final String TWO = "desk span 60;spot a change 3;spot b change 2;line r;";
    private static final String LINK = TWO + "link r a b ";

    private EdgesOfText() {
    }

    static void all() {
        tape();
        blanks();
        words();
        wholes();
        semicolons();
        linesOfAText();
        deskLine();
        spotLine();
        upToTenSpots();
        lineLine();
        linkLine();
        from();
        till();
        every();
        takes();
        whenTheyLeave();
        numbersOfDepartures();
        upTo120();
        names();
        toldOnce();
        faults();
        formOfBytes();
        formOfTokens();
        formAtTheEnd();
        untold();
        again();
        againDesk();
        bounds();
        manyLines();
        manyDepartures();
        lacksDesk();
        lacksSpot();
    }

    /** A text of so many bytes, blanks between its two lines. */
    private static String wide(String first, String last, int bytes) {
        return first + " ".repeat(bytes - first.length() - last.length()) + last;
    }

    private static String repeated(String part, int times) {
        return part.repeat(times);
    }

    private static String spots(int n) {
        StringBuilder text = new StringBuilder("desk span 9");
        for (int s = 0; s < n; s++) {
            text.append(";spot ").append((char) ('a' + s)).append(" change 0");
        }
        return text.toString();
    }

    private static String lines(int n) {
        StringBuilder text = new StringBuilder("desk span 999;spot a change 0;spot b change 0");
        for (int l = 0; l < n; l++) {
            text.append(";line ").append((char) ('k' + l));
        }
        return text.toString();
    }

    private static void tape() {
        Edges.of(0, "I. THE TEXT of a DESK (THE TAPE has 900 bytes");
        LinkTimes x = Edges.fine(wide("desk span 60;", "spot a change 47", 900), 0);
        Bench.due("spot(0, 0): the last byte of a full tape counts", x.spot(0, 0), 47);
        Bench.faulty(wide("desk span 60;", "spot a change 7#", 900), 1, 899);
        Bench.faulty(wide("desk span 60;", "spot a change", 900), 1, 900);
    }

    private static void blanks() {
        Edges.of(0, "blanks, 32, part TOKENS and mean nothing else");
        LinkTimes x = Edges.fine("   desk  span   60  ;  spot  a  change  3  wait  4  ;  line  r  ", 0);
        Bench.due("about(2)", x.about(2), 1);
        x = Edges.fine("desk span60;spot a change3wait4;spot b change5;line r;link r a b from6till8every2takes9", 2);
        Bench.due("spot(0, 1) without blanks", x.spot(0, 1), 4);
        Bench.due("departure(1, 4) without blanks", x.departure(1, 4), 17);
        Edges.fault(1, "^deskspan 60");
        Edges.fault(1, "desk span 6 ^0");
        Edges.fault(4, "desk span ^0 60");
        for (char other : new char[] {0, 9, 10, 11, 12, 13, 31, 33, 160}) {
            Edges.fault(1, "desk^" + other + "span 60");
        }
    }

    private static void words() {
        Edges.of(0, "TOKENS: WORDS of 1 to 6 small letters that stand together");
        Edges.fine(HEAD + "spot a change 1;spot z change 1;spot abcxyz change 1", 0);
        Edges.fault(1, HEAD + "spot ^abcdefg change 1");
        Edges.fault(1, HEAD + "spot ^abcdefghijklmnopqrstuvwxyz change 1");
        Edges.fault(1, HEAD + "spot ab ^cd change 1");
        Edges.fault(1, HEAD + "spot ^A change 1");
        Edges.fault(1, HEAD + "spot ^Z change 1");
        Edges.fault(1, HEAD + "spot a^B change 1");
        // The bytes just ahead of a and just behind z.
        Edges.fault(1, HEAD + "spot ^` change 1");
        Edges.fault(1, HEAD + "spot ^{ change 1");
        Edges.fault(1, HEAD + "spot ^\u00e9 change 1");
        Edges.fault(1, HEAD + "spot ^\u00ff change 1");
        // Six letters alike, the seventh another one: no word of six is taken out of it.
        Edges.fault(1, HEAD + "spot a ^changed 1");
    }

    private static void wholes() {
        Edges.of(0, "WHOLES of 1 to 4 digits that do");
        Bench.due("about(0) of 7", Edges.fine("desk span 7;spot a change 1", 0).about(0), 7);
        Bench.due("about(0) of 0007", Edges.fine("desk span 0007;spot a change 0000", 0).about(0), 7);
        Edges.fault(1, "desk span ^00007;spot a change 1");
        Edges.fault(1, "desk span ^4294967303;spot a change 1");
        Edges.fault(1, "desk span 6 ^0;spot a change 1");
        Edges.fault(4, "desk span ^9999;spot a change 1");
        Edges.fault(4, "desk span ^0000;spot a change 1");
        // The bytes just ahead of 0 and just behind 9, and what else numbers may have.
        Edges.fault(1, "desk span ^/;spot a change 1");
        Edges.fault(1, "desk span ^:;spot a change 1");
        Edges.fault(1, "desk span ^-7;spot a change 1");
        Edges.fault(1, "desk span ^+7;spot a change 1");
        Edges.fault(1, "desk span 7^.0;spot a change 1");
    }

    private static void semicolons() {
        Edges.of(0, "single ones of ;");
        Edges.fault(1, "^;");
        Edges.fault(1, "^;desk span 60");
        Edges.fault(1, "desk span 60;^;spot a change 1");
        Edges.fault(1, "desk span 60; ^; spot a change 1");
        Edges.fault(1, "desk^;span 60");
        Edges.fault(1, "desk span 60;spot a change^;");
        Edges.fine("desk span 60 ; spot a change 1", 0);
    }

    private static void linesOfAText() {
        Edges.of(0, "LINE {; LINE}. LINE, one of:");
        Edges.fine(HEAD + "spot a change 1", 0);
        Edges.fault(6, "desk span 60^");
        Edges.fault(1, "^");
        Edges.fault(1, HEAD + "spot a change 1;^");
        Edges.fault(1, HEAD + "spot a change 1; ^");
        Edges.fault(1, HEAD + "spot a change 1 ^line r");
        Edges.fault(1, HEAD + "^lines r");
        Edges.fault(1, HEAD + "^span 60");
    }

    private static void deskLine() {
        Edges.of(0, "desk span WHOLE (SPAN, 1 .. 999), ahead of all others");
        Bench.due("the least SPAN", Edges.fine("desk span 1;spot a change 1", 0).about(0), 1);
        Bench.due("the greatest SPAN", Edges.fine("desk span 999;spot a change 1", 0).about(0), 999);
        Edges.fault(4, "desk span ^0;spot a change 1");
        Edges.fault(4, "desk span ^1000;spot a change 1");
        Edges.fault(6, "^line r;desk span 60;spot a change 1");
    }

    private static void spotLine() {
        Edges.of(0, "spot NAME change WHOLE [wait WHOLE] "
                + "(a SPOT, numbered from 0; CHANGE, 0 .. 99; WAIT, 0 .. 999; without it any;");
        LinkTimes x = Edges.fine(HEAD + "spot a change 0 wait 0;spot b change 99 wait 999;spot c change 5", 0);
        int[][] told = {{0, 0}, {99, 999}, {5, -2}};
        for (int s = 0; s < told.length; s++) {
            Bench.due("CHANGE of spot " + s, x.spot(s, 0), told[s][0]);
            Bench.due("WAIT of spot " + s, x.spot(s, 1), told[s][1]);
        }
        Edges.fault(4, HEAD + "spot a change ^100");
        Edges.fault(4, HEAD + "spot a change 99 wait ^1000");
        Edges.fault(1, HEAD + "spot a change 99 wait^");
        Edges.fault(1, HEAD + "spot a change 99 wait 9 ^wait 9");
        Edges.fault(1, HEAD + "spot a ^wait 9 change 99");
        Edges.fault(1, HEAD + "spot a ^;");
    }

    private static void upToTenSpots() {
        Edges.of(0, "up to 10)");
        Bench.due("about(1)", Edges.fine(spots(10), 0).about(1), 10);
        Edges.fault(5, spots(10) + ";^spot k change 0");
    }

    private static void lineLine() {
        Edges.of(0, "line NAME (a LINE, numbered from 0; up to 8)");
        LinkTimes x = Edges.fine(lines(8) + ";link k a b from 0 till 0 every 1 takes 1"
                + ";link r a b from 0 till 0 every 1 takes 1", 2);
        Bench.due("about(2)", x.about(2), 8);
        Bench.due("the first LINE", x.departure(0, 0), 0);
        Bench.due("the last LINE", x.departure(1, 0), 7);
        Bench.due("about(2) without lines", Edges.fine(lines(0), 0).about(2), 0);
        Edges.fault(5, lines(8) + ";^line s");
    }

    private static void linkLine() {
        Edges.of(0, "link LINE SPOT SPOT from WHOLE till WHOLE every WHOLE takes WHOLE (up to 12;");
        String link = ";link k a b from 5 till 5 every 1 takes 1";
        LinkTimes x = Edges.fine(lines(1) + repeated(link, 12), 12);
        Bench.due("about(3)", x.about(3), 12);
        Bench.due("the last link", x.departure(11, 7), 11);
        Bench.due("about(3) without links", Edges.fine(lines(1), 0).about(3), 0);
        Edges.fault(5, lines(1) + repeated(link, 12) + ";^link k a b from 5 till 5 every 1 takes 1");
    }

    private static void from() {
        Edges.of(0, "FROM, 0 .. SPAN;");
        Bench.due("the least", Edges.fine(LINK + "from 0 till 0 every 1 takes 1", 1).departure(0, 3), 0);
        Bench.due("the greatest", Edges.fine(LINK + "from 60 till 60 every 1 takes 1", 1).departure(0, 3), 60);
        Edges.fault(4, LINK + "from ^61 till 61 every 1 takes 1");
        Edges.fault(4, "desk span 1;spot a change 3;spot b change 2;line r;link r a b from ^2");
        Edges.fault(1, LINK + "from ^till 60");
    }

    private static void till() {
        Edges.of(0, "TILL, FROM .. SPAN;");
        Edges.fine(LINK + "from 7 till 7 every 1 takes 1", 1);
        Edges.fine(LINK + "from 7 till 60 every 53 takes 1", 2);
        Edges.fault(4, LINK + "from 7 till ^6 every 1 takes 1");
        Edges.fault(4, LINK + "from 7 till ^61 every 1 takes 1");
    }

    private static void every() {
        Edges.of(0, "EVERY, 1 .. 999;");
        Edges.fine(LINK + "from 0 till 2 every 1 takes 1", 3);
        Edges.fine(LINK + "from 0 till 60 every 999 takes 1", 1);
        Edges.fault(4, LINK + "from 0 till 2 every ^0 takes 1");
        Edges.fault(4, LINK + "from 0 till 2 every ^1000 takes 1");
    }

    private static void takes() {
        Edges.of(0, "TAKES, 1 .. 99:");
        Bench.due("the least", Edges.fine(LINK + "from 60 till 60 every 1 takes 1", 1).departure(0, 4), 61);
        Bench.due("the greatest", Edges.fine(LINK + "from 60 till 60 every 1 takes 99", 1).departure(0, 4), 159);
        Edges.fault(4, LINK + "from 60 till 60 every 1 takes ^0");
        Edges.fault(4, LINK + "from 60 till 60 every 1 takes ^100");
    }

    private static void whenTheyLeave() {
        Edges.of(0, "from the first SPOT to the other one a DEPARTURE of that LINE leaves at FROM, "
                + "and every EVERY TICKS behind it, till TILL;");
        LinkTimes x = Edges.fine(LINK + "from 10 till 30 every 10 takes 4", 3);
        int[] leave = {10, 20, 30};
        for (int d = 0; d < 3; d++) {
            Bench.due("from which SPOT " + d, x.departure(d, 1), 0);
            Bench.due("to which SPOT " + d, x.departure(d, 2), 1);
            Bench.due("LEAVES of " + d, x.departure(d, 3), leave[d]);
            Bench.due("ARRIVES of " + d, x.departure(d, 4), leave[d] + 4);
        }
        // One leaves at TILL, none behind it; with one tick less it doesn't.
        Edges.fine(LINK + "from 10 till 29 every 10 takes 4", 2);
        Edges.fine(LINK + "from 10 till 31 every 10 takes 4", 3);
        Edges.fine(LINK + "from 10 till 10 every 10 takes 4", 1);
        Edges.fine(LINK + "from 10 till 19 every 10 takes 4", 1);
        Edges.fine("desk span 999;spot a change 3;spot b change 2;line r;link r a b from 0 till 999 every 999 takes 1", 2);
        Edges.fine("desk span 999;spot a change 3;spot b change 2;line r;link r a b from 0 till 998 every 999 takes 1", 1);
    }

    private static void numbersOfDepartures() {
        Edges.of(0, "DEPARTURES are numbered from 0, link by link, as they leave;");
        LinkTimes x = Edges.fine(LINK + "from 50 till 60 every 10 takes 1;link r b a from 1 till 3 every 2 takes 1", 4);
        int[][] told = {{50, 0}, {60, 0}, {1, 1}, {3, 1}};
        for (int d = 0; d < 4; d++) {
            Bench.due("LEAVES of " + d, x.departure(d, 3), told[d][0]);
            Bench.due("the link of " + d, x.departure(d, 7), told[d][1]);
        }
    }

    private static void upTo120() {
        Edges.of(0, "up to 120)");
        LinkTimes x = Edges.fine(lines(1) + ";link k a b from 0 till 119 every 1 takes 1", 120);
        Bench.due("LEAVES of the last one", x.departure(119, 3), 119);
        Edges.fault(5, lines(1) + ";link k a b from 0 till 120 every ^1 takes 1");
        String ten = ";link k a b from 0 till 9 every 1 takes 1";
        Edges.fine(lines(1) + repeated(ten, 12), 120);
        Edges.fault(5, lines(1) + repeated(ten, 11) + ";link k a b from 0 till 10 every ^1 takes 1");
    }

    private static void names() {
        Edges.of(0, "NAMES are WORDS but desk, spot, line, link;");
        for (String word : new String[] {"desk", "spot", "line", "link"}) {
            Edges.fault(1, HEAD + "spot ^" + word + " change 1");
            Edges.fault(1, HEAD + "line ^" + word);
            Edges.fault(1, TWO + "link ^" + word + " a b");
            Edges.fault(1, TWO + "link r ^" + word + " b");
            Edges.fault(1, TWO + "link r a ^" + word);
        }
        // All other words are names, those of the lines, and those that only begin like the four, too.
        Edges.fine(HEAD + "spot span change 1;spot change change 1;spot wait change 1 wait 1;line from;line till;"
                + "line every;line takes;link takes wait change from 1 till 1 every 1 takes 1", 1);
        Edges.fine(HEAD + "spot desks change 1;spot spo change 1;line lines;line lin;"
                + "link lin spo desks from 1 till 1 every 1 takes 1", 1);
        Edges.fault(1, HEAD + "spot ^7 change 1");
    }

    private static void toldOnce() {
        Edges.of(0, "each told once (of both sorts together), ahead of its use.");
        Edges.fault(3, TWO + "spot ^b change 1");
        Edges.fault(3, TWO + "spot ^r change 1");
        Edges.fault(3, TWO + "line ^a");
        Edges.fault(3, TWO + "line ^r");
        Edges.fault(2, TWO + "link ^g a b from 1 till 1 every 1 takes 1;line g");
        Edges.fault(2, TWO + "link r a ^c from 1 till 1 every 1 takes 1;spot c change 1");
        // Names that begin alike, or have the same letters, are others.
        Edges.fine(TWO + "spot aa change 1;spot ab change 1;spot ba change 1;line rr;line ar", 0);
    }

    private static void faults() {
        Edges.of(0, "FAULTS, the first that is met from the left, of one place the least number:");
        Edges.fault(4, "desk span ^0;spot a change 100;#");
        Edges.fault(4, HEAD + "spot a change ^100 #");
        Edges.fault(2, TWO + "link ^x a a from 99");
        Edges.fault(3, TWO + "link r a ^a from 99");
        // Of one place: FORM ahead of LACKS, FORM ahead of AGAIN, bounds ahead of MANY, AGAIN ahead of MANY.
        Edges.fault(1, "desk span 60;^");
        Edges.fault(1, "desk span 60;spot a change^");
        Edges.fault(1, TWO + "spot ^desk change 1");
        String full = lines(1) + ";link k a b from 0 till 119 every 1 takes 1";
        Edges.fault(4, full + ";link k a b from 0 till 119 every ^0");
        Edges.fault(4, full + ";link k a b from 0 till 119 every ^1000");
        Edges.fault(5, full + ";link k a b from 0 till 119 every ^999");
        Edges.fault(3, spots(10) + ";^desk span 60");
    }

    private static void formOfBytes() {
        Edges.of(0, "1 FORM: the first byte that begins no TOKEN,");
        Edges.fault(1, "^#");
        Edges.fault(1, "desk^# span 60");
        Edges.fault(1, "desk span 60^#;spot a change 1");
        Edges.fault(1, "desk span 60;^\u0000spot a change 1");
        Edges.fault(1, HEAD + "spot a change 1^#");
        Edges.fault(1, HEAD + "spot a change 1  ^\u00a0");
        // Where a NAME is due, it is no NAME that isn't told.
        Edges.fault(1, HEAD + "line ^#");
        Edges.fault(1, TWO + "link ^#");
        Edges.fault(1, TWO + "link r a ^#");
        Edges.fault(1, "^##");
    }

    private static void formOfTokens() {
        Edges.of(0, "or TOKEN with which no DESK goes on");
        String good = "desk span 60;spot a change 3 wait 4;spot b change 2;line r;"
                + "link r a b from 1 till 9 every 4 takes 2";
        Edges.fine(good, 3);
        // Each token in turn is one that can't stand there: a number for a word or a ;, a ; for a number.
        for (int at = 0; at < good.length(); at++) {
            char sign = good.charAt(at);
            boolean begins = sign == ';' || sign != ' ' && (at == 0 || " ;".indexOf(good.charAt(at - 1)) >= 0);
            if (begins) {
                int stop = at + 1;
                while (stop < good.length() && sign != ';' && " ;".indexOf(good.charAt(stop)) < 0) {
                    stop++;
                }
                String other = Character.isDigit(sign) ? ";" : " 5";
                int skip = Character.isDigit(sign) ? 0 : 1;
                Bench.faulty(good.substring(0, at) + other + " " + good.substring(stop), 1, at + skip);
            }
        }
        // A word that differs by one letter is another one, whichever letter it is.
        for (String word : "desk span spot change wait line link from till every takes".split(" ")) {
            int at = good.indexOf(word);
            for (int k = 0; k < word.length(); k++) {
                char other = word.charAt(k) == 'x' ? 'y' : 'x';
                Bench.faulty(good.substring(0, at + k) + other + good.substring(at + k + 1), 1, at);
            }
        }
        Edges.fault(1, good + " ^2");
        Edges.fault(1, good + " ^wait 5");
    }

    private static void formAtTheEnd() {
        Edges.of(0, "(the end: its place).");
        Edges.fault(1, "^");
        Edges.fault(1, "    ^");
        Edges.fault(1, "desk^");
        Edges.fault(1, "desk span^");
        Edges.fault(1, "desk span  ^");
        Edges.fault(1, TWO + "link r a b from 1 till 9 every 4 takes^");
        Edges.fault(1, TWO + "link r a b from 1 till 9 every 4^");
        Edges.fault(1, TWO + "^");
        Edges.fault(1, TWO + "spot^");
        Edges.fault(1, TWO + "spot c^");
        Edges.fault(1, TWO + "line^");
    }

    private static void untold() {
        Edges.of(0, "2 a NAME that isn't told, or of the other sort; at it.");
        Edges.fault(2, TWO + "link ^x");
        Edges.fault(2, TWO + "link ^a");
        Edges.fault(2, TWO + "link r ^x");
        Edges.fault(2, TWO + "link r ^r");
        Edges.fault(2, TWO + "link r a ^x");
        Edges.fault(2, TWO + "link r a ^r");
        Edges.fault(2, TWO + "link  ^from");
        Edges.fault(2, HEAD + "link ^r");
    }

    private static void again() {
        Edges.of(0, "3 AGAIN: a NAME told again, the SPOT of a link twice; at it;");
        Edges.fault(3, TWO + "spot ^a");
        Edges.fault(3, TWO + "line  ^b");
        Edges.fault(3, TWO + "spot ^r");
        Edges.fault(3, TWO + "link r a ^a");
        Edges.fault(3, TWO + "link r b  ^b from 1 till 1 every 1 takes 1");
    }

    private static void againDesk() {
        Edges.of(0, "a second desk, at that WORD.");
        Edges.fault(3, "desk span 60;^desk");
        Edges.fault(3, "desk span 60; ^desk span 60;spot a change 1");
        Edges.fault(3, TWO + "^desk span 0");
        Edges.fault(3, "desk span 1;^desk span 1");
    }

    private static void bounds() {
        Edges.of(0, "4 a WHOLE out of bounds; at it.");
        Edges.fault(4, "desk span  ^1000");
        Edges.fault(4, HEAD + "spot a change  ^100");
        Edges.fault(4, HEAD + "spot a change 1 wait  ^1000");
        Edges.fault(4, LINK + "from  ^9999");
        Edges.fault(4, LINK + "from 5 till  ^4");
        Edges.fault(4, LINK + "from 5 till 5 every  ^0");
        Edges.fault(4, LINK + "from 5 till 5 every 1 takes  ^0");
    }

    private static void manyLines() {
        Edges.of(0, "5 MANY: a LINE more of its sort than there is room for, at its first WORD;");
        Edges.fault(5, spots(10) + "; ^spot");
        Edges.fault(5, spots(10) + ";line r;^spot a");
        Edges.fault(5, lines(8) + ";^line");
        Edges.fault(5, lines(8) + ";spot c change 0;^line 7");
        Edges.fault(5, lines(1) + repeated(";link k a b from 5 till 5 every 1 takes 1", 12) + ";^link x");
        // What is told of one sort takes no room from another one.
        Edges.fine(spots(10) + ";line r;line s;link r a b from 1 till 1 every 1 takes 1", 1);
    }

    private static void manyDepartures() {
        Edges.of(0, "EVERY by which there would be more than 120 DEPARTURES; at it.");
        String full = lines(1) + ";link k a b from 0 till 119 every 1 takes 1";
        Edges.fault(5, full + ";link k b a from 9 till 9 every  ^1");
        Edges.fault(5, lines(1) + ";link k a b from 0 till 960 every ^8");
        Edges.fine(lines(1) + ";link k a b from 0 till 959 every 8 takes 1", 120);
        Edges.fault(5, lines(1) + ";link k a b from 0 till 999 every ^1");
        Edges.fine(lines(1) + ";link k a b from 0 till 118 every 1 takes 1;link k a b from 5 till 6 every 2 takes 1", 120);
        Edges.fault(5, lines(1) + ";link k a b from 0 till 118 every 1 takes 1;link k a b from 5 till 6 every ^1");
    }

    private static void lacksDesk() {
        Edges.of(0, "6 LACKS: any LINE ahead of the desk; at its WORD;");
        Edges.fault(6, "^spot a change 1;desk span 60");
        Edges.fault(6, "^line r");
        Edges.fault(6, "  ^link r a b");
        Edges.fault(6, "^spot");
        // A word that begins no LINE is no LINE that lacks a desk.
        Edges.fault(1, "^span 60");
    }

    private static void lacksSpot() {
        Edges.of(0, "at the end: no SPOT.");
        Edges.fault(6, "desk span 60^");
        Edges.fault(6, "desk span 60   ^");
        Edges.fault(6, "desk span 60;line r;line g^");
        Edges.fine("desk span 60;line r;spot a change 0", 0);
    }
}
