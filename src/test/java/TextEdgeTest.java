/** Sentences of the document about the TAPE, TEXTS, TOKENS and FAULTS that name an edge, each with its own test. */
public final class TextEdgeTest {
    private static final int NONE = GoldPlate.NONE;
    private static final int LEAST = Integer.MIN_VALUE;
    private static final int MOST = Integer.MAX_VALUE;
    private static final String[] UNITS = {"kind", "cost", "left", "worn", "other", "place", "twice", "bare", "width",
        "height", "prime", "edges", "far"};
    private static final Due due = new Due();

    public static void main(String[] args) {
        feedBehind();
        feedOrder();
        feedFull();
        end();
        mindEmptiesTheTape();
        mindIsReplaced();
        mindIsToldAnew();
        mindStays();
        nothingOfAFaultyText();
        mindNoSuch();
        mindsAreEmptyAtFirst();
        faultAnswers();
        numbersOfLines();
        grammar();
        keywords();
        numbers();
        cutWithinAToken();
        everyByte();
        blanks();
        firstByItsPlace();
        atOnePlaceTheLeast();
        theEnd();
        linesAndSeconds();
        openOnes();
        sums();
        conditions();
        due.close();
    }

    private static void fine(String text, int lines) {
        GoldPlate x = new GoldPlate();
        due.is("mind of '" + text + "'", Due.mind(x, 0, text), lines);
        due.is("no FAULT of '" + text + "'", x.fault(0), 0);
        due.is("nowhere in '" + text + "'", x.fault(1), NONE);
    }

    private static void faulty(String text, int what, int place) {
        GoldPlate x = new GoldPlate();
        due.is("mind of '" + text + "'", Due.mind(x, 0, text), NONE);
        due.is("FAULT of '" + text + "'", x.fault(0), what);
        due.is("its place in '" + text + "'", x.fault(1), place);
    }

    /** What E is for a bare MARK: kind 5, cost 20, DEPTH 9 and nothing gone. */
    private static int worked(String lines) {
        GoldPlate x = new GoldPlate();
        x.mark(5, 0, 20, 9, 15);
        x.put(0);
        due.yes("a text: " + lines, Due.mind(x, 0, lines) >= 0);
        return x.cheapest(0, 0);
    }

    private static boolean holds(String claim) {
        return worked("price 1 when " + claim + ";") == 1;
    }

    private static int feedBlanks(GoldPlate x) {
        return x.feed(0x20202020, 0x20202020, 0x20202020, 0x20202020, 0x20202020);
    }

    private static void feedBehind() {
        due.says("Twenty bytes come behind the TAPE: how many it has");
        GoldPlate x = new GoldPlate();
        due.is("first", feedBlanks(x), 20);
        due.is("second", feedBlanks(x), 40);
        x.end(7);
        due.is("behind a cut one", feedBlanks(x), 27);
    }

    private static void feedOrder() {
        due.says("of each number the highest first");
        GoldPlate x = new GoldPlate();
        // "sense 0;know 1;sen" and "se 2": each byte at its own place.
        x.feed(0x73656e73, 0x6520303b, 0x6b6e6f77, 0x20313b73, 0x656e7365);
        x.feed(0x20323b20, 0, 0, 0, 0);
        x.end(24);
        due.is("lines", x.mind(0), 3);
        x.mark(0, 0, 1, 1, 5);
        x.tell(0, 1, 2);
        due.is("senses 0 and 2, fact 1", x.alone(0, 0), 1);
        x.feed(-1, 0, 0, 0, 0);
        due.is("bytes of a number below 0", x.mind(0), NONE);
        due.is("the first byte, 255", x.fault(1), 0);
        x.feed(0x0a0a0aff, 0, 0, 0, 0);
        x.mind(0);
        due.is("the lowest comes last", x.fault(1), 3);
        x.feed(0x0a0a0a0a, 0x0a0a0a0a, 0x0a0a0a0a, 0x0a0a0a0a, 0x80202020);
        x.mind(0);
        due.is("the fifth number comes last", x.fault(1), 16);
    }

    private static void feedFull() {
        due.says("NONE, and nothing comes, if there would be more than 500");
        GoldPlate x = new GoldPlate();
        for (int i = 1; i <= 25; i++) {
            due.is("feed", feedBlanks(x), 20 * i);
        }
        due.is("520", x.feed(-1, -1, -1, -1, -1), NONE);
        due.no("nothing came", x.end(501));
        due.yes("it has 500", x.end(500));
        due.yes("it has 481", x.end(481));
        due.is("501", x.feed(-1, -1, -1, -1, -1), NONE);
        due.no("nothing came", x.end(482));
        due.yes("it has 480", x.end(480));
        due.is("500", x.feed(0x0a0a0a0a, 0x0a0a0a0a, 0x0a0a0a0a, 0x0a0a0a0a, 0x0a0a0aff), 500);
        due.is("the last byte is read", x.mind(0), NONE);
        due.is("at its place", x.fault(1), 499);
    }

    private static void end() {
        due.says("The TAPE has its first n bytes alone: true; false, changing nothing, if it has not so many, or n is "
                + "below 0");
        GoldPlate x = new GoldPlate();
        due.yes("0 of none", x.end(0));
        due.no("1 of none", x.end(1));
        Due.write(x, "sense 1;know 1;twin 1;");
        for (int wrong : new int[] {23, 500, 501, -1, LEAST, MOST}) {
            due.no("end(" + wrong + ")", x.end(wrong));
        }
        due.yes("all", x.end(22));
        due.is("nothing has changed", x.mind(0), 3);
        Due.write(x, "sense 1;know 1;twin 1;");
        due.yes("first 15", x.end(15));
        due.no("what was cut is not there", x.end(16));
        due.is("the first ones alone", x.mind(0), 2);
        Due.write(x, "x");
        due.yes("none of them", x.end(0));
        due.is("an empty TEXT", x.mind(0), 0);
    }

    private static void mindEmptiesTheTape() {
        due.says("The TAPE, empty then, is MIND k");
        GoldPlate x = new GoldPlate();
        due.is("a TEXT", Due.mind(x, 0, "know 1;know 2;"), 2);
        due.no("empty", x.end(1));
        due.is("the empty TAPE is a TEXT", x.mind(0), 0);
        due.is("a FAULT", Due.mind(x, 0, "know 1;know"), NONE);
        due.no("empty", x.end(1));
        due.is("the next comes first", feedBlanks(x), 20);
        due.is("no such MIND", Due.mind(x, 6, "know 1;"), NONE);
        due.no("empty", x.end(1));
    }

    private static final String WHOLE = "sense 2;know 5;twin 1;price 7;try height;";

    /** A plate that shows each line of WHOLE: MARK 0 needs sense 2 and fact 5, MARKS 1 and 2 just one of them. */
    private static GoldPlate shown() {
        GoldPlate x = new GoldPlate();
        x.mark(0, 0, 1, 1, 4);
        x.tell(0, 1, 32);
        x.mark(0, 1, 1, 1, 4);
        x.mark(0, 2, 1, 1, 0);
        x.tell(2, 1, 32);
        x.put(0);
        x.bits(0b100000, 6);
        x.grid(0b100000, 6);
        return x;
    }

    private static void showsWhole(GoldPlate x, int k) {
        due.is("sense and know", x.alone(k, 0), 1);
        due.is("sense", x.alone(k, 1), 1);
        due.is("know", x.alone(k, 2), 1);
        due.is("twin", x.laid(k, 3, 0), 4);
        due.is("price", x.cheapest(k, 0), 7);
        due.is("try", x.widths(k, 1), 3);
    }

    private static void showsEmpty(GoldPlate x, int k) {
        due.is("sense and know", x.alone(k, 0), 0);
        due.is("sense", x.alone(k, 1), 0);
        due.is("know", x.alone(k, 2), 0);
        due.is("twin", x.laid(k, 3, 0), 6);
        due.is("price", x.cheapest(k, 0), 0);
        due.is("try", x.widths(k, 1), 2);
    }

    private static void mindIsReplaced() {
        due.says("The TAPE is MIND k");
        GoldPlate x = shown();
        for (int k = 0; k < 6; k++) {
            due.is("MIND " + k, Due.mind(x, k, WHOLE), 5);
            showsWhole(x, k);
        }
        due.is("empty", Due.mind(x, 3, ""), 0);
        showsEmpty(x, 3);
        showsWhole(x, 2);
        showsWhole(x, 4);
        due.is("twin and try may come again in another TEXT", Due.mind(x, 4, "try 1;twin 0;"), 2);
        due.is("once more", Due.mind(x, 4, WHOLE), 5);
        showsWhole(x, 4);
    }

    private static void mindIsToldAnew() {
        due.says("The TAPE is MIND k: nothing stays of what it was, however often it is told");
        for (int k = 0; k < 6; k++) {
            GoldPlate x = shown();
            for (int times = 1; times <= 3; times++) {
                for (int i = 0; i < times; i++) {
                    due.is("MIND " + k, Due.mind(x, k, WHOLE), 5);
                }
                due.is("empty", Due.mind(x, k, ""), 0);
                showsEmpty(x, k);
                due.is("empty again", Due.mind(x, k, ""), 0);
                showsEmpty(x, k);
            }
        }
        due.says("fewer lines than before, a shorter sum than before");
        GoldPlate x = shown();
        for (int i = 0; i < 3; i++) {
            due.is("long", Due.mind(x, 0, "price 1 when 1=2;price 2 when 1=2;price 3;try 0-1-1-1-1-width;"), 4);
            due.is("long", x.cheapest(0, 0), 3);
            due.is("long", x.widths(0, 1), 3);
            due.is("short", Due.mind(x, 0, "price 9 when 1=2;try width;"), 2);
            due.is("no price line is so", x.cheapest(0, 0), 0);
            due.is("the new try", x.widths(0, 1), 2);
        }
    }

    private static void nothingOfAFaultyText() {
        due.says("NONE: a FAULT: nothing of that TEXT comes into the next");
        GoldPlate x = shown();
        for (String fault : new String[] {"sense 4;", "?", "twin 0;", "price 1/0;", "know"}) {
            due.is("a FAULT", Due.mind(x, 0, WHOLE + fault), NONE);
            due.is("an empty one", Due.mind(x, 0, ""), 0);
            showsEmpty(x, 0);
            due.is("a FAULT", Due.mind(x, 0, WHOLE + fault), NONE);
            due.is("twin and try may come in the next", Due.mind(x, 0, "twin 0;try 0;"), 2);
            showsEmpty(x, 0);
            due.is("a FAULT in the 16th line", Due.mind(x, 0, "know 5;".repeat(15) + "know 9;"), NONE);
            due.is("sixteen may come in the next", Due.mind(x, 0, "know 0;".repeat(16)), 16);
            showsEmpty(x, 0);
        }
    }

    private static void mindStays() {
        due.says("NONE: a FAULT (it stays as it was)");
        GoldPlate x = shown();
        String other = "sense 0;know 0;twin 0;price 3;try 1;";
        for (String fault : new String[] {"sense 4;", "?", "twin 0;", "price 1/0;", "know"}) {
            due.is("an empty one", Due.mind(x, 0, other + fault), NONE);
            showsEmpty(x, 0);
        }
        Due.mind(x, 0, WHOLE);
        for (String fault : new String[] {"sense 4;", "?", "twin 0;", "price 1/0;", "know"}) {
            due.is("a whole one", Due.mind(x, 0, other + fault), NONE);
            showsWhole(x, 0);
        }
    }

    private static void mindNoSuch() {
        due.says("NONE: no such MIND (fault() tells 0)");
        for (int wrong : new int[] {6, -1, LEAST, MOST}) {
            GoldPlate x = shown();
            Due.mind(x, 5, WHOLE);
            due.is("a FAULT before", Due.mind(x, 0, "?"), NONE);
            due.is("mind(" + wrong + ")", Due.mind(x, wrong, "sense 9;"), NONE);
            due.is("fault(0)", x.fault(0), 0);
            due.is("fault(1)", x.fault(1), NONE);
            showsWhole(x, 5);
            showsEmpty(x, 0);
        }
    }

    private static void mindsAreEmptyAtFirst() {
        due.says("MINDS 0 .. 5 are TEXTS (empty at first)");
        GoldPlate x = shown();
        for (int k = 0; k < 6; k++) {
            showsEmpty(x, k);
        }
    }

    private static void faultAnswers() {
        due.says("Of the latest mind(): what 0 the FAULT (0 without one), 1 its place (NONE). NONE for another what");
        GoldPlate x = new GoldPlate();
        due.is("before any", x.fault(0), 0);
        due.is("before any", x.fault(1), NONE);
        Due.mind(x, 0, "sense 4;");
        due.is("a FAULT", x.fault(0), 2);
        due.is("a FAULT", x.fault(0), 2);
        due.is("its place", x.fault(1), 6);
        Due.write(x, "know 1;");
        due.is("not yet the latest", x.fault(0), 2);
        x.mind(0);
        due.is("the latest has none", x.fault(0), 0);
        due.is("the latest has none", x.fault(1), NONE);
        Due.mind(x, 0, ";");
        due.is("a place of 0", x.fault(1), 0);
        for (int wrong : new int[] {2, -1, LEAST, MOST}) {
            due.is("fault(" + wrong + ")", x.fault(wrong), NONE);
        }
    }

    private static void numbersOfLines() {
        due.says("sense N 0 .. 3, know N 0 .. 7; twin N: HAND 0, 1; FAULT 2 (at the NUMBER)");
        for (int n = 0; n < 4; n++) {
            fine("sense " + n + ";", 1);
            GoldPlate x = new GoldPlate();
            x.mark(0, 0, 1, 1, 1 << n);
            x.mark(0, 0, 1, 1, 15 - (1 << n));
            Due.mind(x, 0, "sense " + n + ";");
            due.is("sense " + n, x.alone(0, 0), 1);
            due.is("no other sense", x.alone(0, 1), 0);
        }
        faulty("sense 4;", 2, 6);
        faulty("sense 9999;", 2, 6);
        fine("know 0;know 7;", 2);
        faulty("know 8;", 2, 5);
        fine("twin 0;", 1);
        fine("twin 1;", 1);
        faulty("twin 2;", 2, 5);
        faulty("twin 10;", 2, 5);
        due.says("FAULT 2 (at the NUMBER): a part by 0");
        fine("price 1/1;", 1);
        fine("price 0/9999;", 1);
        faulty("price 1/0;", 2, 8);
        faulty("price 1/ 000;", 2, 9);
        faulty("try 1/2/0;", 2, 8);
        faulty("price 1 when 1=1/0;", 2, 17);
        faulty("price 1 when 1/0=1;", 2, 15);
        due.says("lines may come more than once");
        fine("sense 1;sense 1;know 2;know 2;price 1;price 1;", 6);
    }

    private static void grammar() {
        due.says("(sense N | know N | twin N | price E [when B] | try E) ;");
        for (String word : new String[] {"sense", "know", "twin"}) {
            faulty(word + ";", 1, word.length());
            faulty(word + " kind;", 1, word.length() + 1);
            faulty(word + " 1+1;", 1, word.length() + 2);
            faulty(word + " 1 when 1=1;", 1, word.length() + 3);
        }
        faulty("price;", 1, 5);
        faulty("try;", 1, 3);
        faulty("try 1 when 1=1;", 1, 6);
        faulty("price 1 when 1=1 when 1=1;", 1, 17);
        faulty("1;", 1, 0);
        faulty("kind;", 1, 0);
        faulty(";", 1, 0);
        faulty("know 1;;", 1, 7);
        faulty("(know 1;)", 1, 0);
        due.says("C = E (< | = | >) E | not C | ( B )");
        faulty("price 1 when 1;", 1, 14);
        faulty("price 1 when 1==1;", 1, 15);
        faulty("price 1 when 1<=1;", 1, 15);
        faulty("price 1 when 1<1<1;", 1, 16);
        faulty("price 1 when ();", 1, 14);
        faulty("price 1 when (1+1)=2;", 1, 17);
        faulty("price 1 when 2=(1+1);", 1, 15);
        faulty("price 1 when not;", 1, 16);
        faulty("price 1 when and 1=1;", 1, 13);
        faulty("price 1 when 1=1 or;", 1, 19);
        faulty("price 1 when 1=1 and;", 1, 20);
        faulty("price 1 when 1=1 not 1=1;", 1, 17);
        faulty("price 1 when (1=1));", 1, 18);
        faulty("price 1 when (1=1;", 1, 17);
        due.says("E = T {(+ | -) T}. T = U {* U | / NUMBER}. U = NUMBER | ..");
        faulty("price +1;", 1, 6);
        faulty("price 1-;", 1, 8);
        faulty("price 1+-1;", 1, 8);
        faulty("price *1;", 1, 6);
        faulty("price 1**1;", 1, 8);
        faulty("price 1/kind;", 1, 8);
        faulty("price 1/;", 1, 8);
        faulty("price (1);", 1, 6);
        faulty("price 1 1;", 1, 8);
        faulty("price kind cost;", 1, 11);
        faulty("price when;", 1, 6);
    }

    private static void keywords() {
        due.says("letters as many as stand together are KEYWORDS (those told here) or none");
        for (String unit : UNITS) {
            fine("price " + unit + ";", 1);
            fine("price 1*" + unit + "/2 when " + unit + "<1;try " + unit + ";", 2);
            faulty("price " + unit + "s;", 1, 6);
            faulty("price " + unit.substring(1) + ";", 1, 6);
            faulty("price x" + unit + ";", 1, 6);
            faulty("price " + unit.toUpperCase() + ";", 1, 6);
            faulty("price " + unit + unit + ";", 1, 6);
        }
        for (String word : new String[] {"sense", "know", "twin", "price", "try"}) {
            fine(word + "1;", 1);
            faulty(word + "x1;", 1, 0);
            faulty(word.substring(0, word.length() - 1) + " 1;", 1, 0);
            faulty("know 1;" + word + word + " 1;", 1, 7);
            faulty(word.toUpperCase() + " 1;", 1, 0);
            faulty("price " + word + ";", 1, 6);
        }
        fine("price1when1=1and1=1or not1=1;", 1);
        faulty("price1when1=1ornot1=1;", 1, 13);
        faulty("price 1 whenn 1=1;", 1, 8);
        faulty("price 1 when nott 1=1;", 1, 13);
        faulty("price 1 when 1=1 an 1=1;", 1, 17);
        faulty("price 1 when 1=1 o 1=1;", 1, 17);
    }

    private static void numbers() {
        due.says("digits as many as stand together NUMBERS of 1 to 4 digits or none");
        fine("sense 3;", 1);
        fine("sense 03;", 1);
        fine("sense 003;", 1);
        fine("sense 0003;", 1);
        faulty("sense 00003;", 1, 6);
        faulty("price 10000;", 1, 6);
        faulty("price 1/00000;", 1, 8);
        faulty("price 1/10000;", 1, 8);
        faulty("know " + "9".repeat(400) + ";", 1, 5);
        due.is("four digits", worked("price 9999-9998;"), 1);
        due.is("0 ahead", worked("price 0012;"), 12);
        due.is("digits behind letters", worked("price2*kind;"), 10);
        due.is("letters behind digits", worked("price 2*3when1=1;"), 6);
    }

    /** A text of which just the first bytes are left: what stood behind them is no part of it. */
    private static void cut(String text, int length, int lines, int what, int place) {
        GoldPlate x = new GoldPlate();
        Due.write(x, text);
        due.yes("end of '" + text + "'", x.end(length));
        due.is("mind of '" + text + "', cut", x.mind(0), lines);
        due.is("FAULT of '" + text + "', cut", x.fault(0), what);
        due.is("its place in '" + text + "', cut", x.fault(1), place);
    }

    private static void cutWithinAToken() {
        due.says("The TAPE has its first n bytes alone: a TOKEN that is cut ends there");
        cut("sense 33;", 7, NONE, 1, 7);
        cut("know 1;know", 7, 1, 0, NONE);
        cut("senses 1;", 5, NONE, 1, 5);
        cut("sense 1;", 4, NONE, 1, 0);
        cut("price 12345;", 10, NONE, 1, 10);
        cut("price kinds;", 10, NONE, 1, 10);
        due.says("what was on the TAPE before is no part of the TEXT");
        GoldPlate x = new GoldPlate();
        due.is("long", Due.mind(x, 0, "know 7;know 7;know 7;"), 3);
        due.is("short", Due.mind(x, 0, "know 7"), NONE);
        due.is("at the end", x.fault(1), 6);
        Due.mind(x, 0, "999999999999");
        due.is("digits behind it", Due.mind(x, 0, "know 7"), NONE);
        due.is("a NUMBER of one digit", x.fault(0), 1);
        due.is("and the end", x.fault(1), 6);
        due.says("the 500th byte is the last of a TOKEN");
        faulty("try 1" + "+1".repeat(247) + "1", 1, 500);
        faulty("try 1+" + " ".repeat(490) + "1111", 1, 500);
        faulty("try 1+" + " ".repeat(490) + "kind", 1, 500);
        faulty("try 1+" + " ".repeat(490) + "kins", 1, 496);
        fine(" ".repeat(494) + "try 1;", 1);
    }

    private static boolean isLetter(int c) {
        return c >= 'a' && c <= 'z' || c >= 'A' && c <= 'Z';
    }

    private static void everyByte() {
        due.says("; + - * / ( ) < = > . Blanks (32, 10) between");
        for (int c = 0; c < 256; c++) {
            String text = "sense 1" + (char) c + ";";
            if (c == 32 || c == 10) {
                fine(text, 1);
            } else if (c >= '0' && c <= '9') {
                faulty(text, 2, 6);
            } else {
                faulty(text, 1, c == ';' ? 8 : 7);
            }
            String first = (char) c + "sense 1;";
            if (c == 32 || c == 10) {
                fine(first, 1);
            } else {
                faulty(first, 1, 0);
            }
            String within = "sen" + (char) c + "se 1;";
            faulty(within, 1, 0);
            String behind = "sense" + (char) c + "1;";
            if (c == 32 || c == 10) {
                fine(behind, 1);
            } else if (c >= '0' && c <= '9') {
                // "sense 01" .. "sense 91"
                if (c == '0') {
                    fine(behind, 1);
                } else {
                    faulty(behind, 2, 5);
                }
            } else {
                faulty(behind, 1, isLetter(c) ? 0 : 5);
            }
        }
        for (String sign : new String[] {"+", "-", "*"}) {
            fine("price 1" + sign + "1;", 1);
        }
        for (String sign : new String[] {"<", "=", ">"}) {
            fine("price 1 when 1" + sign + "1;", 1);
        }
    }

    private static void blanks() {
        due.says("Blanks (32, 10) between");
        fine("", 0);
        fine(" ", 0);
        fine("\n", 0);
        fine(" ".repeat(500), 0);
        fine("\n ".repeat(250), 0);
        fine(" ".repeat(493) + "know 1;", 1);
        fine("know 1;" + "\n".repeat(493), 1);
        fine("know" + " \n".repeat(247) + "1;", 1);
        fine("\nprice\n1\nwhen\n(\n1\n=\n1\n)\n;\n", 1);
        faulty("pr ice 1;", 1, 0);
        faulty("price 1 2;", 1, 8);
        faulty("know 1;\t", 1, 7);
        faulty("know 1;\r\n", 1, 7);
    }

    private static void firstByItsPlace() {
        due.says("FAULTS, the first by its place");
        faulty("sense 9;twin 0;twin 0;?", 2, 6);
        faulty("twin 0;twin 0;sense 9;?", 3, 7);
        faulty("price ?;sense 9;", 1, 6);
        faulty("price 1/0+;", 2, 8);
        faulty("price 1+/0;", 1, 8);
        faulty("sense 9", 2, 6);
        faulty("twin 0;twin 9;", 3, 7);
        faulty("try 1;try ;", 3, 6);
        faulty("twin 9;twin 9;", 2, 5);
        faulty("know 1;".repeat(16) + "sense 9;", 3, 112);
        faulty("know 1;".repeat(15) + "sense 9;know 1;", 2, 111);
        faulty("price 1 when (((((((((?", 3, 21);
        faulty("price 1 when ((((((((?(", 1, 21);
        faulty("price 1/0 when (((((((((1=1)))))))));", 2, 8);
        faulty("? 12345 sense 9", 1, 0);
    }

    private static void atOnePlaceTheLeast() {
        due.says("at one place the least");
        faulty("sense 12345;", 1, 6);
        faulty("price 1/00000;", 1, 8);
        faulty("twin 1 twin 1;", 1, 7);
        faulty("try 1;price try;", 1, 12);
        faulty("know 1;".repeat(15) + "know 1 know 1;", 1, 112);
        faulty("know 1;".repeat(16) + "1;", 1, 112);
        faulty("know 1;".repeat(16) + "when", 1, 112);
        faulty("know 1;".repeat(16) + "knows 1;", 1, 112);
        faulty("price 1 when ((((((((1=(", 1, 23);
        faulty("price 1 when ((((((((1(", 1, 22);
        faulty("price 1 when ((((((((1=1 not 1=1", 1, 25);
        due.says("two FAULTS 3 at one place");
        faulty("know 1;".repeat(15) + "twin 0;twin 0;", 3, 112);
        faulty("know 1;".repeat(15) + "try 0;try 0;", 3, 111);
    }

    private static void theEnd() {
        due.says("1 what can't stand there (the end: the text's length)");
        String[] tokens = {"sense", "1", ";", "know", "2", ";", "twin", "0", ";", "price", "kind", "+", "1", "*", "2",
            "/", "3", "-", "left", "when", "not", "(", "1", "<", "2", "or", "far", ">", "3", ")", "and", "worn", "=",
            "1", ";", "try", "width", "-", "2", ";"};
        StringBuilder text = new StringBuilder();
        int lines = 0;
        for (String token : tokens) {
            text.append(token).append(' ');
            lines += token.equals(";") ? 1 : 0;
            String upTo = text.toString();
            if (token.equals(";")) {
                fine(upTo, lines);
            } else {
                faulty(upTo, 1, upTo.length());
                faulty(upTo.trim(), 1, upTo.length() - 1);
                faulty(upTo + "\n\n", 1, upTo.length() + 2);
            }
        }
        faulty("know 1" + " ".repeat(494), 1, 500);
        faulty("try 1" + "+1".repeat(247) + "+", 1, 500);
    }

    private static void linesAndSeconds() {
        due.says("FAULT 3 (at its KEYWORD): the 17th line");
        for (String line : new String[] {"know 1;", "sense 1;", "price 1;"}) {
            fine(line.repeat(15), 15);
            fine(line.repeat(16), 16);
            faulty(line.repeat(17), 3, 16 * line.length());
            faulty(line.repeat(16) + " \n" + line, 3, 16 * line.length() + 2);
            faulty(line.repeat(16) + "try", 3, 16 * line.length());
            faulty(line.repeat(16) + "twin 0;", 3, 16 * line.length());
        }
        due.says("at most one twin, one try; FAULT 3 (at its KEYWORD): the 2nd twin or try");
        fine("twin 0;try 1;", 2);
        faulty("twin 0;twin 0;", 3, 7);
        faulty("twin 0;know 1; twin 1;", 3, 15);
        faulty("try 1;try 1;", 3, 6);
        faulty("try 1;twin 1;try 1;", 3, 13);
        faulty("twin 1;try 1;twin", 3, 13);
    }

    private static void openOnes() {
        due.says("FAULT 3 (at it): the 9th ( or not that is open");
        String claim = "price 1 when ";
        for (int nots = 0; nots <= 8; nots++) {
            String eight = "not ".repeat(nots) + "(".repeat(8 - nots);
            String closed = ")".repeat(8 - nots);
            fine(claim + eight + "1=1" + closed + ";", 1);
            fine(claim + eight + "1=1" + closed + " and " + eight + "1=1" + closed + ";", 1);
            faulty(claim + eight + "(1=1)" + closed + ";", 3, 13 + eight.length());
            faulty(claim + eight + "not 1=1" + closed + ";", 3, 13 + eight.length());
        }
        fine(claim + "(((((((1=1 and (1=1) and (1=1) or not 1=1 or not 1=1)))))));", 1);
        faulty(claim + "(((((((1=1 and ((1=1))))))))));", 3, 29);
        faulty(claim + "(((((((1=1 or not not 1=1)))))));", 3, 31);
        fine(claim + "(1=1) and ".repeat(30) + "1=1;", 1);
        fine(claim + "not 1=1 or ".repeat(30) + "1=1;", 1);
        fine("price 1 when ((((((((1=1))))))));price 1 when ((((((((1=1))))))));", 2);
    }

    private static void sums() {
        due.says("E = T {(+ | -) T}. T = U {* U | / NUMBER}: from the left, T first");
        due.is("100-10-1", worked("price 100-10-1;"), 89);
        due.is("100-10+1", worked("price 100-10+1;"), 91);
        due.is("2+3*4", worked("price 2+3*4;"), 14);
        due.is("100-2*3-4*5", worked("price 100-2*3-4*5;"), 74);
        due.is("7/2*2", worked("price 7/2*2;"), 6);
        due.is("2*7/2", worked("price 2*7/2;"), 7);
        due.is("100/3/3", worked("price 100/3/3;"), 11);
        due.is("8-7/2", worked("price 8-7/2;"), 5);
        due.is("8-7/1", worked("price 8-7/1;"), 1);
        due.is("1+6/1*2", worked("price 1+6/1*2;"), 13);
        due.is("3+8/2/1-1", worked("price 3+8/2/1-1;"), 6);
        due.says("Ints, which wrap");
        due.yes("above the most", holds("9999*9999*22<0"));
        due.yes("all round", holds("8192*8192*64=0"));
        due.yes("the least", holds("8192*8192*32<0-8192*8192*31"));
        due.yes("the least less one", holds("8192*8192*32-1>0"));
        due.yes("the most and one", holds("8192*8192*31+8192*8191+8191+1=8192*8192*32"));
        due.says("/ goes towards 0");
        // 9999*9999*22 wraps to -2095407274, which 7 leaves 2 short of.
        due.is("what is below 0", worked("price 9999*9999*22/7*7-9999*9999*22;"), 2);
        due.is("what is above 0", worked("price 9-7/4*4;"), 5);
        due.yes("the least by 1", holds("8192*8192*32/1=8192*8192*32"));
        due.says("E cut to 0 .. 999");
        due.is("999", worked("price 999;"), 999);
        due.is("1000", worked("price 1000;"), 999);
        due.is("the most", worked("price 8192*8192*31;"), 999);
        due.is("0", worked("price 5-5;"), 0);
        due.is("-1", worked("price 5-6;"), 0);
        due.is("the least", worked("price 8192*8192*32;"), 0);
    }

    private static void conditions() {
        due.says("B = A {or A}. A = C {and C}. C = E (< | = | >) E | not C | ( B )");
        for (int bits = 0; bits < 8; bits++) {
            String a = (bits & 1) == 1 ? "1=1" : "1=2";
            String b = (bits & 2) == 2 ? "3>2" : "2>2";
            String c = (bits & 4) == 4 ? "1<2" : "2<2";
            boolean p = (bits & 1) == 1;
            boolean q = (bits & 2) == 2;
            boolean r = (bits & 4) == 4;
            check(a + " or " + b + " and " + c, p || q && r);
            check(a + " and " + b + " or " + c, p && q || r);
            check(a + " or " + b + " or " + c, p || q || r);
            check(a + " and " + b + " and " + c, p && q && r);
            check("(" + a + " or " + b + ") and " + c, (p || q) && r);
            check(a + " and (" + b + " or " + c + ")", p && (q || r));
            check("not " + a + " and " + b + " or " + c, !p && q || r);
            check(a + " and (" + b + ")", p && q);
            check("(" + a + ") and ((" + b + ")) and (" + c + ")", p && q && r);
            check("(" + a + ") or (" + b + " and (" + c + "))", p || q && r);
            check(a + " and (" + b + " and " + c + ")", p && q && r);
            check(a + " and not (" + b + ") and not (" + c + ")", p && !q && !r);
            check(a + " and (" + b + " and (" + c + " or " + a + "))", p && q);
            check("not (" + a + " and " + b + " or " + c + ")", !(p && q || r));
            check("not not " + a + " or not " + b + " and not " + c, p || !q && !r);
            check(a + " or " + b + " and " + c + " or " + a + " and " + b, p || q && r || p && q);
            check(a + " and " + b + " or " + c + " and " + a + " or " + b + " and " + c, p && q || r && p || q && r);
        }
        check("1<1", false);
        check("1>1", false);
        check("0-1<0", true);
        check("0>0-1", true);
        check("1+1=2", true);
        check("2=1+1", true);
        check("3-1*2>0", true);
        due.says("C = E (< | = | >) E: a sum on either side, so or not");
        String[] sums = {"1", "3", "1+1", "2+1", "4-1", "4-1-1", "1*3", "6/2", "1+2*1", "5-2*1-0", "0-1", "9/1-6/1"};
        int[] values = {1, 3, 2, 3, 3, 2, 3, 3, 3, 3, -1, 3};
        for (int i = 0; i < sums.length; i++) {
            for (int j = 0; j < sums.length; j++) {
                check(sums[i] + "<" + sums[j], values[i] < values[j]);
                check(sums[i] + "=" + sums[j], values[i] == values[j]);
                check(sums[i] + ">" + sums[j], values[i] > values[j]);
                check("1=2 or 1=1 and not " + sums[i] + "<" + sums[j], values[i] >= values[j]);
            }
        }
    }

    private static void check(String claim, boolean want) {
        due.is(claim, holds(claim) ? 1 : 0, want ? 1 : 0);
    }
}
